/-! the law's one turn -/
theorem Ag_e {kc Mc km Mm L : Nat} {lc lm : List Value} {xs : Nat → Int32} (A : Ag kc Mc lc km Mm lm L xs) : ∃ r h1 h2, zv kc Mc 0 lc [] (zF L xs) = some (some (.int r), h1) ∧ Sx h1 L xs ∧ zv km Mm 0 lm [] h1 = some (some (.int r), h2) ∧ Sx h2 L xs := by
  unfold Ag at A
  generalize e1 : zv kc Mc 0 lc [] (zF L xs) = o1 at A
  match o1, A with
  | some (some (.int r), h1), A =>
    obtain ⟨s1, A⟩ := A
    generalize e2 : zv km Mm 0 lm [] h1 = o2 at A
    match o2, A with
    | some (some (.int r2), h2), A =>
      obtain ⟨rfl, s2⟩ := A
      exact ⟨r2, h1, h2, rfl, s1, e2, s2⟩
theorem AgL_e {kc Mc km Mm L : Nat} {lc lm : List Value} {xs : Nat → Int32} (A : AgL kc Mc lc km Mm lm L xs) : ∃ r h1 h2, zv kc Mc 0 lc [] (zF L xs) = some (some (.long r), h1) ∧ Sx h1 L xs ∧ zv km Mm 0 lm [] h1 = some (some (.long r), h2) ∧ Sx h2 L xs := by
  unfold AgL at A
  generalize e1 : zv kc Mc 0 lc [] (zF L xs) = o1 at A
  match o1, A with
  | some (some (.long r), h1), A =>
    obtain ⟨s1, A⟩ := A
    generalize e2 : zv km Mm 0 lm [] h1 = o2 at A
    match o2, A with
    | some (some (.long r2), h2), A =>
      obtain ⟨rfl, s2⟩ := A
      exact ⟨r2, h1, h2, rfl, s1, e2, s2⟩
theorem lcm_s (r : Int64) : (lg_cmp r r = 0) = True := eq_true (by
  have h1 : ¬ lg_cmp r r < 0 := fun q => absurd ((lg_cmp_lt _ _).mp q) (Int64.lt_irrefl)
  have h2 : ¬ 0 < lg_cmp r r := fun q => absurd ((lg_cmp_gt _ _).mp q) (Int64.lt_irrefl)
  simp only [Int32.lt_iff_toInt_lt, ← Int32.toInt_inj] at *
  simp +decide only [Int32.reduceToInt] at *
  omega)
theorem fn_26 {x : Int32} (h : ¬ (x.toInt < 0 ∨ 26 < x.toInt)) : x = 0 ∨ x = 1 ∨ x = 2 ∨ x = 3 ∨ x = 4 ∨ x = 5 ∨ x = 6 ∨ x = 7 ∨ x = 8 ∨ x = 9 ∨ x = 10 ∨ x = 11 ∨ x = 12 ∨ x = 13 ∨ x = 14 ∨ x = 15 ∨ x = 16 ∨ x = 17 ∨ x = 18 ∨ x = 19 ∨ x = 20 ∨ x = 21 ∨ x = 22 ∨ x = 23 ∨ x = 24 ∨ x = 25 ∨ x = 26 := by
  simp only [← Int32.toInt_inj]
  simp +decide only [Int32.reduceToInt]
  omega
def Ok1 (xs : Nat → Int32) : Prop := ∃ hF, zv 18 243 26 [.retAddr 0, .ref 0, .ref 211, .int 0] [] (zF 5 xs) = some (some (.int 1), hF) ∧ Sh hF
theorem law_0 {xs : Nat → Int32} (hx : xs 0 &&& 31 = 0) : Ok1 xs := by
  obtain ⟨r, h1, h2, e1, s1, e2, s2⟩ := Ag_e (g_feed (L := 5) (xs := xs) (xs 1))
  refine ⟨h2, ?_, s2.1⟩
  simp +decide only [b243_26_c0, b243_156, b243_165, b243_174, b243_177, b243_958, b243_18, b243_964, hx, e1, e2, Option.bind_some, Option.toList_some, Option.toList_none, List.cons_append, List.nil_append, List.append_nil, zq_rf, or_false, false_or, or_true, true_or, not_false_eq_true, not_true_eq_false, and_true, true_and, and_false, false_and, and_self, or_self, ite_true, ite_false, ↓reduceIte, Int32.reduceAdd, Int32.reduceSub, Int32.reduceMul, Int32.reduceDiv, Int32.reduceLT, Int32.reduceLE, Int32.reduceToNatClampNeg, Int32.reduceToInt, Int32.reduceOfNat, Nat.reduceAdd, Nat.reduceSub, Nat.reduceMul, Nat.reduceLeDiff, Nat.reduceEqDiff, zF_n, zF_k, kx_0, kx_211, zF_L, zF_x, s1.1.n, s1.1.k, s1.2.1, s1.2.2, s2.1.n, s2.1.k, s2.2.1, s2.2.2, lcm_s]
theorem law_1 {xs : Nat → Int32} (hx : xs 0 &&& 31 = 1) : Ok1 xs := by
  obtain ⟨r, h1, h2, e1, s1, e2, s2⟩ := Ag_e (g_end (L := 5) (xs := xs) (xs 1))
  refine ⟨h2, ?_, s2.1⟩
  simp +decide only [b243_26_c1, b243_179, b243_188, b243_197, b243_200, b243_958, b243_18, b243_964, hx, e1, e2, Option.bind_some, Option.toList_some, Option.toList_none, List.cons_append, List.nil_append, List.append_nil, zq_rf, or_false, false_or, or_true, true_or, not_false_eq_true, not_true_eq_false, and_true, true_and, and_false, false_and, and_self, or_self, ite_true, ite_false, ↓reduceIte, Int32.reduceAdd, Int32.reduceSub, Int32.reduceMul, Int32.reduceDiv, Int32.reduceLT, Int32.reduceLE, Int32.reduceToNatClampNeg, Int32.reduceToInt, Int32.reduceOfNat, Nat.reduceAdd, Nat.reduceSub, Nat.reduceMul, Nat.reduceLeDiff, Nat.reduceEqDiff, zF_n, zF_k, kx_0, kx_211, zF_L, zF_x, s1.1.n, s1.1.k, s1.2.1, s1.2.2, s2.1.n, s2.1.k, s2.2.1, s2.2.2, lcm_s]
theorem law_2 {xs : Nat → Int32} (hx : xs 0 &&& 31 = 2) : Ok1 xs := by
  obtain ⟨r, h1, h2, e1, s1, e2, s2⟩ := Ag_e (g_text (L := 5) (xs := xs))
  refine ⟨h2, ?_, s2.1⟩
  simp +decide only [b243_26_c2, b243_202, b243_206, b243_210, b243_213, b243_958, b243_18, b243_964, hx, e1, e2, Option.bind_some, Option.toList_some, Option.toList_none, List.cons_append, List.nil_append, List.append_nil, zq_rf, or_false, false_or, or_true, true_or, not_false_eq_true, not_true_eq_false, and_true, true_and, and_false, false_and, and_self, or_self, ite_true, ite_false, ↓reduceIte, Int32.reduceAdd, Int32.reduceSub, Int32.reduceMul, Int32.reduceDiv, Int32.reduceLT, Int32.reduceLE, Int32.reduceToNatClampNeg, Int32.reduceToInt, Int32.reduceOfNat, Nat.reduceAdd, Nat.reduceSub, Nat.reduceMul, Nat.reduceLeDiff, Nat.reduceEqDiff, zF_n, zF_k, kx_0, kx_211, zF_L, zF_x, s1.1.n, s1.1.k, s1.2.1, s1.2.2, s2.1.n, s2.1.k, s2.2.1, s2.2.2, lcm_s]
theorem law_3 {xs : Nat → Int32} (hx : xs 0 &&& 31 = 3) : Ok1 xs := by
  obtain ⟨r, h1, h2, e1, s1, e2, s2⟩ := Ag_e (g_fault (L := 5) (xs := xs))
  refine ⟨h2, ?_, s2.1⟩
  simp +decide only [b243_26_c3, b243_215, b243_219, b243_223, b243_226, b243_958, b243_18, b243_964, hx, e1, e2, Option.bind_some, Option.toList_some, Option.toList_none, List.cons_append, List.nil_append, List.append_nil, zq_rf, or_false, false_or, or_true, true_or, not_false_eq_true, not_true_eq_false, and_true, true_and, and_false, false_and, and_self, or_self, ite_true, ite_false, ↓reduceIte, Int32.reduceAdd, Int32.reduceSub, Int32.reduceMul, Int32.reduceDiv, Int32.reduceLT, Int32.reduceLE, Int32.reduceToNatClampNeg, Int32.reduceToInt, Int32.reduceOfNat, Nat.reduceAdd, Nat.reduceSub, Nat.reduceMul, Nat.reduceLeDiff, Nat.reduceEqDiff, zF_n, zF_k, kx_0, kx_211, zF_L, zF_x, s1.1.n, s1.1.k, s1.2.1, s1.2.2, s2.1.n, s2.1.k, s2.2.1, s2.2.2, lcm_s]
theorem law_4 {xs : Nat → Int32} (hx : xs 0 &&& 31 = 4) : Ok1 xs := by
  obtain ⟨r, h1, h2, e1, s1, e2, s2⟩ := Ag_e (g_rule (L := 5) (xs := xs) (xs 1))
  refine ⟨h2, ?_, s2.1⟩
  simp +decide only [b243_26_c4, b243_228, b243_237, b243_246, b243_249, b243_958, b243_18, b243_964, hx, e1, e2, Option.bind_some, Option.toList_some, Option.toList_none, List.cons_append, List.nil_append, List.append_nil, zq_rf, or_false, false_or, or_true, true_or, not_false_eq_true, not_true_eq_false, and_true, true_and, and_false, false_and, and_self, or_self, ite_true, ite_false, ↓reduceIte, Int32.reduceAdd, Int32.reduceSub, Int32.reduceMul, Int32.reduceDiv, Int32.reduceLT, Int32.reduceLE, Int32.reduceToNatClampNeg, Int32.reduceToInt, Int32.reduceOfNat, Nat.reduceAdd, Nat.reduceSub, Nat.reduceMul, Nat.reduceLeDiff, Nat.reduceEqDiff, zF_n, zF_k, kx_0, kx_211, zF_L, zF_x, s1.1.n, s1.1.k, s1.2.1, s1.2.2, s2.1.n, s2.1.k, s2.2.1, s2.2.2, lcm_s]
theorem law_5 {xs : Nat → Int32} (hx : xs 0 &&& 31 = 5) : Ok1 xs := by
  obtain ⟨r, h1, h2, e1, s1, e2, s2⟩ := Ag_e (g_node (L := 5) (xs := xs) (xs 1) (xs 2))
  refine ⟨h2, ?_, s2.1⟩
  simp +decide only [b243_26_c5, b243_251, b243_265, b243_279, b243_282, b243_958, b243_18, b243_964, hx, e1, e2, Option.bind_some, Option.toList_some, Option.toList_none, List.cons_append, List.nil_append, List.append_nil, zq_rf, or_false, false_or, or_true, true_or, not_false_eq_true, not_true_eq_false, and_true, true_and, and_false, false_and, and_self, or_self, ite_true, ite_false, ↓reduceIte, Int32.reduceAdd, Int32.reduceSub, Int32.reduceMul, Int32.reduceDiv, Int32.reduceLT, Int32.reduceLE, Int32.reduceToNatClampNeg, Int32.reduceToInt, Int32.reduceOfNat, Nat.reduceAdd, Nat.reduceSub, Nat.reduceMul, Nat.reduceLeDiff, Nat.reduceEqDiff, zF_n, zF_k, kx_0, kx_211, zF_L, zF_x, s1.1.n, s1.1.k, s1.2.1, s1.2.2, s2.1.n, s2.1.k, s2.2.1, s2.2.2, lcm_s]
theorem law_6 {xs : Nat → Int32} (hx : xs 0 &&& 31 = 6) : Ok1 xs := by
  obtain ⟨r, h1, h2, e1, s1, e2, s2⟩ := Ag_e (g_entry (L := 5) (xs := xs) (xs 1) (xs 2) (xs 3))
  refine ⟨h2, ?_, s2.1⟩
  simp +decide only [b243_26_c6, b243_284, b243_303, b243_322, b243_325, b243_958, b243_18, b243_964, hx, e1, e2, Option.bind_some, Option.toList_some, Option.toList_none, List.cons_append, List.nil_append, List.append_nil, zq_rf, or_false, false_or, or_true, true_or, not_false_eq_true, not_true_eq_false, and_true, true_and, and_false, false_and, and_self, or_self, ite_true, ite_false, ↓reduceIte, Int32.reduceAdd, Int32.reduceSub, Int32.reduceMul, Int32.reduceDiv, Int32.reduceLT, Int32.reduceLE, Int32.reduceToNatClampNeg, Int32.reduceToInt, Int32.reduceOfNat, Nat.reduceAdd, Nat.reduceSub, Nat.reduceMul, Nat.reduceLeDiff, Nat.reduceEqDiff, zF_n, zF_k, kx_0, kx_211, zF_L, zF_x, s1.1.n, s1.1.k, s1.2.1, s1.2.2, s2.1.n, s2.1.k, s2.2.1, s2.2.2, lcm_s]
theorem law_7 {xs : Nat → Int32} (hx : xs 0 &&& 31 = 7) : Ok1 xs := by
  obtain ⟨r, h1, h2, e1, s1, e2, s2⟩ := Ag_e (g_client (L := 5) (xs := xs) (xs 1) (xs 2))
  refine ⟨h2, ?_, s2.1⟩
  simp +decide only [b243_26_c7, b243_327, b243_341, b243_355, b243_358, b243_958, b243_18, b243_964, hx, e1, e2, Option.bind_some, Option.toList_some, Option.toList_none, List.cons_append, List.nil_append, List.append_nil, zq_rf, or_false, false_or, or_true, true_or, not_false_eq_true, not_true_eq_false, and_true, true_and, and_false, false_and, and_self, or_self, ite_true, ite_false, ↓reduceIte, Int32.reduceAdd, Int32.reduceSub, Int32.reduceMul, Int32.reduceDiv, Int32.reduceLT, Int32.reduceLE, Int32.reduceToNatClampNeg, Int32.reduceToInt, Int32.reduceOfNat, Nat.reduceAdd, Nat.reduceSub, Nat.reduceMul, Nat.reduceLeDiff, Nat.reduceEqDiff, zF_n, zF_k, kx_0, kx_211, zF_L, zF_x, s1.1.n, s1.1.k, s1.2.1, s1.2.2, s2.1.n, s2.1.k, s2.2.1, s2.2.2, lcm_s]
theorem law_8 {xs : Nat → Int32} (hx : xs 0 &&& 31 = 8) : Ok1 xs := by
  obtain ⟨r, h1, h2, e1, s1, e2, s2⟩ := Ag_e (g_there (L := 5) (xs := xs) (xs 1))
  refine ⟨h2, ?_, s2.1⟩
  simp +decide only [b243_26_c8, b243_360, b243_369, b243_378, b243_381, b243_958, b243_18, b243_964, hx, e1, e2, Option.bind_some, Option.toList_some, Option.toList_none, List.cons_append, List.nil_append, List.append_nil, zq_rf, or_false, false_or, or_true, true_or, not_false_eq_true, not_true_eq_false, and_true, true_and, and_false, false_and, and_self, or_self, ite_true, ite_false, ↓reduceIte, Int32.reduceAdd, Int32.reduceSub, Int32.reduceMul, Int32.reduceDiv, Int32.reduceLT, Int32.reduceLE, Int32.reduceToNatClampNeg, Int32.reduceToInt, Int32.reduceOfNat, Nat.reduceAdd, Nat.reduceSub, Nat.reduceMul, Nat.reduceLeDiff, Nat.reduceEqDiff, zF_n, zF_k, kx_0, kx_211, zF_L, zF_x, s1.1.n, s1.1.k, s1.2.1, s1.2.2, s2.1.n, s2.1.k, s2.2.1, s2.2.2, lcm_s]
theorem law_9 {xs : Nat → Int32} (hx : xs 0 &&& 31 = 9) : Ok1 xs := by
  obtain ⟨r, h1, h2, e1, s1, e2, s2⟩ := Ag_e (g_begin (L := 5) (xs := xs) (xs 1) (xs 2) (xs 3))
  refine ⟨h2, ?_, s2.1⟩
  simp +decide only [b243_26_c9, b243_383, b243_402, b243_421, b243_424, b243_958, b243_18, b243_964, hx, e1, e2, Option.bind_some, Option.toList_some, Option.toList_none, List.cons_append, List.nil_append, List.append_nil, zq_rf, or_false, false_or, or_true, true_or, not_false_eq_true, not_true_eq_false, and_true, true_and, and_false, false_and, and_self, or_self, ite_true, ite_false, ↓reduceIte, Int32.reduceAdd, Int32.reduceSub, Int32.reduceMul, Int32.reduceDiv, Int32.reduceLT, Int32.reduceLE, Int32.reduceToNatClampNeg, Int32.reduceToInt, Int32.reduceOfNat, Nat.reduceAdd, Nat.reduceSub, Nat.reduceMul, Nat.reduceLeDiff, Nat.reduceEqDiff, zF_n, zF_k, kx_0, kx_211, zF_L, zF_x, s1.1.n, s1.1.k, s1.2.1, s1.2.2, s2.1.n, s2.1.k, s2.2.1, s2.2.2, lcm_s]
theorem law_10 {xs : Nat → Int32} (hx : xs 0 &&& 31 = 10) : Ok1 xs := by
  obtain ⟨r, h1, h2, e1, s1, e2, s2⟩ := Ag_e (g_step (L := 5) (xs := xs) (xs 1))
  refine ⟨h2, ?_, s2.1⟩
  simp +decide only [b243_26_c10, b243_426, b243_435, b243_444, b243_447, b243_958, b243_18, b243_964, hx, e1, e2, Option.bind_some, Option.toList_some, Option.toList_none, List.cons_append, List.nil_append, List.append_nil, zq_rf, or_false, false_or, or_true, true_or, not_false_eq_true, not_true_eq_false, and_true, true_and, and_false, false_and, and_self, or_self, ite_true, ite_false, ↓reduceIte, Int32.reduceAdd, Int32.reduceSub, Int32.reduceMul, Int32.reduceDiv, Int32.reduceLT, Int32.reduceLE, Int32.reduceToNatClampNeg, Int32.reduceToInt, Int32.reduceOfNat, Nat.reduceAdd, Nat.reduceSub, Nat.reduceMul, Nat.reduceLeDiff, Nat.reduceEqDiff, zF_n, zF_k, kx_0, kx_211, zF_L, zF_x, s1.1.n, s1.1.k, s1.2.1, s1.2.2, s2.1.n, s2.1.k, s2.2.1, s2.2.2, lcm_s]
theorem law_11 {xs : Nat → Int32} (hx : xs 0 &&& 31 = 11) : Ok1 xs := by
  obtain ⟨r, h1, h2, e1, s1, e2, s2⟩ := Ag_e (g_go (L := 5) (xs := xs) (xs 1) (xs 2))
  refine ⟨h2, ?_, s2.1⟩
  simp +decide only [b243_26_c11, b243_449, b243_463, b243_477, b243_480, b243_958, b243_18, b243_964, hx, e1, e2, Option.bind_some, Option.toList_some, Option.toList_none, List.cons_append, List.nil_append, List.append_nil, zq_rf, or_false, false_or, or_true, true_or, not_false_eq_true, not_true_eq_false, and_true, true_and, and_false, false_and, and_self, or_self, ite_true, ite_false, ↓reduceIte, Int32.reduceAdd, Int32.reduceSub, Int32.reduceMul, Int32.reduceDiv, Int32.reduceLT, Int32.reduceLE, Int32.reduceToNatClampNeg, Int32.reduceToInt, Int32.reduceOfNat, Nat.reduceAdd, Nat.reduceSub, Nat.reduceMul, Nat.reduceLeDiff, Nat.reduceEqDiff, zF_n, zF_k, kx_0, kx_211, zF_L, zF_x, s1.1.n, s1.1.k, s1.2.1, s1.2.2, s2.1.n, s2.1.k, s2.2.1, s2.2.2, lcm_s]
theorem law_12 {xs : Nat → Int32} (hx : xs 0 &&& 31 = 12) : Ok1 xs := by
  obtain ⟨r, h1, h2, e1, s1, e2, s2⟩ := Ag_e (g_drop (L := 5) (xs := xs) (xs 1))
  refine ⟨h2, ?_, s2.1⟩
  simp +decide only [b243_26_c12, b243_482, b243_491, b243_500, b243_503, b243_958, b243_18, b243_964, hx, e1, e2, Option.bind_some, Option.toList_some, Option.toList_none, List.cons_append, List.nil_append, List.append_nil, zq_rf, or_false, false_or, or_true, true_or, not_false_eq_true, not_true_eq_false, and_true, true_and, and_false, false_and, and_self, or_self, ite_true, ite_false, ↓reduceIte, Int32.reduceAdd, Int32.reduceSub, Int32.reduceMul, Int32.reduceDiv, Int32.reduceLT, Int32.reduceLE, Int32.reduceToNatClampNeg, Int32.reduceToInt, Int32.reduceOfNat, Nat.reduceAdd, Nat.reduceSub, Nat.reduceMul, Nat.reduceLeDiff, Nat.reduceEqDiff, zF_n, zF_k, kx_0, kx_211, zF_L, zF_x, s1.1.n, s1.1.k, s1.2.1, s1.2.2, s2.1.n, s2.1.k, s2.2.1, s2.2.2, lcm_s]
theorem law_13 {xs : Nat → Int32} (hx : xs 0 &&& 31 = 13) : Ok1 xs := by
  obtain ⟨r, h1, h2, e1, s1, e2, s2⟩ := Ag_e (g_room (L := 5) (xs := xs) (xs 1))
  refine ⟨h2, ?_, s2.1⟩
  simp +decide only [b243_26_c13, b243_505, b243_514, b243_523, b243_526, b243_958, b243_18, b243_964, hx, e1, e2, Option.bind_some, Option.toList_some, Option.toList_none, List.cons_append, List.nil_append, List.append_nil, zq_rf, or_false, false_or, or_true, true_or, not_false_eq_true, not_true_eq_false, and_true, true_and, and_false, false_and, and_self, or_self, ite_true, ite_false, ↓reduceIte, Int32.reduceAdd, Int32.reduceSub, Int32.reduceMul, Int32.reduceDiv, Int32.reduceLT, Int32.reduceLE, Int32.reduceToNatClampNeg, Int32.reduceToInt, Int32.reduceOfNat, Nat.reduceAdd, Nat.reduceSub, Nat.reduceMul, Nat.reduceLeDiff, Nat.reduceEqDiff, zF_n, zF_k, kx_0, kx_211, zF_L, zF_x, s1.1.n, s1.1.k, s1.2.1, s1.2.2, s2.1.n, s2.1.k, s2.2.1, s2.2.2, lcm_s]
theorem law_14 {xs : Nat → Int32} (hx : xs 0 &&& 31 = 14) : Ok1 xs := by
  obtain ⟨r, h1, h2, e1, s1, e2, s2⟩ := Ag_e (g_rows (L := 5) (xs := xs) (xs 1) (xs 2))
  refine ⟨h2, ?_, s2.1⟩
  simp +decide only [b243_26_c14, b243_528, b243_542, b243_556, b243_559, b243_958, b243_18, b243_964, hx, e1, e2, Option.bind_some, Option.toList_some, Option.toList_none, List.cons_append, List.nil_append, List.append_nil, zq_rf, or_false, false_or, or_true, true_or, not_false_eq_true, not_true_eq_false, and_true, true_and, and_false, false_and, and_self, or_self, ite_true, ite_false, ↓reduceIte, Int32.reduceAdd, Int32.reduceSub, Int32.reduceMul, Int32.reduceDiv, Int32.reduceLT, Int32.reduceLE, Int32.reduceToNatClampNeg, Int32.reduceToInt, Int32.reduceOfNat, Nat.reduceAdd, Nat.reduceSub, Nat.reduceMul, Nat.reduceLeDiff, Nat.reduceEqDiff, zF_n, zF_k, kx_0, kx_211, zF_L, zF_x, s1.1.n, s1.1.k, s1.2.1, s1.2.2, s2.1.n, s2.1.k, s2.2.1, s2.2.2, lcm_s]
theorem law_15 {xs : Nat → Int32} (hx : xs 0 &&& 31 = 15) : Ok1 xs := by
  obtain ⟨r, h1, h2, e1, s1, e2, s2⟩ := Ag_e (g_answers (L := 5) (xs := xs) (xs 1) (xs 2) (xs 3))
  refine ⟨h2, ?_, s2.1⟩
  simp +decide only [b243_26_c15, b243_561, b243_580, b243_599, b243_602, b243_958, b243_18, b243_964, hx, e1, e2, Option.bind_some, Option.toList_some, Option.toList_none, List.cons_append, List.nil_append, List.append_nil, zq_rf, or_false, false_or, or_true, true_or, not_false_eq_true, not_true_eq_false, and_true, true_and, and_false, false_and, and_self, or_self, ite_true, ite_false, ↓reduceIte, Int32.reduceAdd, Int32.reduceSub, Int32.reduceMul, Int32.reduceDiv, Int32.reduceLT, Int32.reduceLE, Int32.reduceToNatClampNeg, Int32.reduceToInt, Int32.reduceOfNat, Nat.reduceAdd, Nat.reduceSub, Nat.reduceMul, Nat.reduceLeDiff, Nat.reduceEqDiff, zF_n, zF_k, kx_0, kx_211, zF_L, zF_x, s1.1.n, s1.1.k, s1.2.1, s1.2.2, s2.1.n, s2.1.k, s2.2.1, s2.2.2, lcm_s]
theorem law_16 {xs : Nat → Int32} (hx : xs 0 &&& 31 = 16) : Ok1 xs := by
  obtain ⟨r, h1, h2, e1, s1, e2, s2⟩ := Ag_e (g_first (L := 5) (xs := xs) (xs 1) (xs 2) (xs 3))
  refine ⟨h2, ?_, s2.1⟩
  simp +decide only [b243_26_c16, b243_604, b243_623, b243_642, b243_645, b243_958, b243_18, b243_964, hx, e1, e2, Option.bind_some, Option.toList_some, Option.toList_none, List.cons_append, List.nil_append, List.append_nil, zq_rf, or_false, false_or, or_true, true_or, not_false_eq_true, not_true_eq_false, and_true, true_and, and_false, false_and, and_self, or_self, ite_true, ite_false, ↓reduceIte, Int32.reduceAdd, Int32.reduceSub, Int32.reduceMul, Int32.reduceDiv, Int32.reduceLT, Int32.reduceLE, Int32.reduceToNatClampNeg, Int32.reduceToInt, Int32.reduceOfNat, Nat.reduceAdd, Nat.reduceSub, Nat.reduceMul, Nat.reduceLeDiff, Nat.reduceEqDiff, zF_n, zF_k, kx_0, kx_211, zF_L, zF_x, s1.1.n, s1.1.k, s1.2.1, s1.2.2, s2.1.n, s2.1.k, s2.2.1, s2.2.2, lcm_s]
theorem law_17 {xs : Nat → Int32} (hx : xs 0 &&& 31 = 17) : Ok1 xs := by
  obtain ⟨r, h1, h2, e1, s1, e2, s2⟩ := AgL_e (g_chance (L := 5) (xs := xs) (xs 1) (xs 2) (xs 3) (xs 4))
  refine ⟨h2, ?_, s2.1⟩
  simp +decide only [b243_26_c17, b243_647, b243_671, b243_695, b243_699, b243_958, b243_18, b243_964, hx, e1, e2, Option.bind_some, Option.toList_some, Option.toList_none, List.cons_append, List.nil_append, List.append_nil, zq_rf, or_false, false_or, or_true, true_or, not_false_eq_true, not_true_eq_false, and_true, true_and, and_false, false_and, and_self, or_self, ite_true, ite_false, ↓reduceIte, Int32.reduceAdd, Int32.reduceSub, Int32.reduceMul, Int32.reduceDiv, Int32.reduceLT, Int32.reduceLE, Int32.reduceToNatClampNeg, Int32.reduceToInt, Int32.reduceOfNat, Nat.reduceAdd, Nat.reduceSub, Nat.reduceMul, Nat.reduceLeDiff, Nat.reduceEqDiff, zF_n, zF_k, kx_0, kx_211, zF_L, zF_x, s1.1.n, s1.1.k, s1.2.1, s1.2.2, s2.1.n, s2.1.k, s2.2.1, s2.2.2, lcm_s]
theorem law_18 {xs : Nat → Int32} (hx : xs 0 &&& 31 = 18) : Ok1 xs := by
  obtain ⟨r, h1, h2, e1, s1, e2, s2⟩ := Ag_e (g_check (L := 5) (xs := xs))
  refine ⟨h2, ?_, s2.1⟩
  simp +decide only [b243_26_c18, b243_701, b243_705, b243_709, b243_712, b243_958, b243_18, b243_964, hx, e1, e2, Option.bind_some, Option.toList_some, Option.toList_none, List.cons_append, List.nil_append, List.append_nil, zq_rf, or_false, false_or, or_true, true_or, not_false_eq_true, not_true_eq_false, and_true, true_and, and_false, false_and, and_self, or_self, ite_true, ite_false, ↓reduceIte, Int32.reduceAdd, Int32.reduceSub, Int32.reduceMul, Int32.reduceDiv, Int32.reduceLT, Int32.reduceLE, Int32.reduceToNatClampNeg, Int32.reduceToInt, Int32.reduceOfNat, Nat.reduceAdd, Nat.reduceSub, Nat.reduceMul, Nat.reduceLeDiff, Nat.reduceEqDiff, zF_n, zF_k, kx_0, kx_211, zF_L, zF_x, s1.1.n, s1.1.k, s1.2.1, s1.2.2, s2.1.n, s2.1.k, s2.2.1, s2.2.2, lcm_s]
theorem law_19 {xs : Nat → Int32} (hx : xs 0 &&& 31 = 19) : Ok1 xs := by
  obtain ⟨r, h1, h2, e1, s1, e2, s2⟩ := Ag_e (g_leaf (L := 5) (xs := xs) (xs 1))
  refine ⟨h2, ?_, s2.1⟩
  simp +decide only [b243_26_c19, b243_714, b243_723, b243_732, b243_735, b243_958, b243_18, b243_964, hx, e1, e2, Option.bind_some, Option.toList_some, Option.toList_none, List.cons_append, List.nil_append, List.append_nil, zq_rf, or_false, false_or, or_true, true_or, not_false_eq_true, not_true_eq_false, and_true, true_and, and_false, false_and, and_self, or_self, ite_true, ite_false, ↓reduceIte, Int32.reduceAdd, Int32.reduceSub, Int32.reduceMul, Int32.reduceDiv, Int32.reduceLT, Int32.reduceLE, Int32.reduceToNatClampNeg, Int32.reduceToInt, Int32.reduceOfNat, Nat.reduceAdd, Nat.reduceSub, Nat.reduceMul, Nat.reduceLeDiff, Nat.reduceEqDiff, zF_n, zF_k, kx_0, kx_211, zF_L, zF_x, s1.1.n, s1.1.k, s1.2.1, s1.2.2, s2.1.n, s2.1.k, s2.2.1, s2.2.2, lcm_s]
theorem law_20 {xs : Nat → Int32} (hx : xs 0 &&& 31 = 20) : Ok1 xs := by
  obtain ⟨r, h1, h2, e1, s1, e2, s2⟩ := Ag_e (g_keep (L := 5) (xs := xs) (xs 1))
  refine ⟨h2, ?_, s2.1⟩
  simp +decide only [b243_26_c20, b243_737, b243_746, b243_755, b243_758, b243_958, b243_18, b243_964, hx, e1, e2, Option.bind_some, Option.toList_some, Option.toList_none, List.cons_append, List.nil_append, List.append_nil, zq_rf, or_false, false_or, or_true, true_or, not_false_eq_true, not_true_eq_false, and_true, true_and, and_false, false_and, and_self, or_self, ite_true, ite_false, ↓reduceIte, Int32.reduceAdd, Int32.reduceSub, Int32.reduceMul, Int32.reduceDiv, Int32.reduceLT, Int32.reduceLE, Int32.reduceToNatClampNeg, Int32.reduceToInt, Int32.reduceOfNat, Nat.reduceAdd, Nat.reduceSub, Nat.reduceMul, Nat.reduceLeDiff, Nat.reduceEqDiff, zF_n, zF_k, kx_0, kx_211, zF_L, zF_x, s1.1.n, s1.1.k, s1.2.1, s1.2.2, s2.1.n, s2.1.k, s2.2.1, s2.2.2, lcm_s]
theorem law_21 {xs : Nat → Int32} (hx : xs 0 &&& 31 = 21) : Ok1 xs := by
  obtain ⟨r, h1, h2, e1, s1, e2, s2⟩ := Ag_e (g_back (L := 5) (xs := xs) (xs 1))
  refine ⟨h2, ?_, s2.1⟩
  simp +decide only [b243_26_c21, b243_760, b243_769, b243_778, b243_781, b243_958, b243_18, b243_964, hx, e1, e2, Option.bind_some, Option.toList_some, Option.toList_none, List.cons_append, List.nil_append, List.append_nil, zq_rf, or_false, false_or, or_true, true_or, not_false_eq_true, not_true_eq_false, and_true, true_and, and_false, false_and, and_self, or_self, ite_true, ite_false, ↓reduceIte, Int32.reduceAdd, Int32.reduceSub, Int32.reduceMul, Int32.reduceDiv, Int32.reduceLT, Int32.reduceLE, Int32.reduceToNatClampNeg, Int32.reduceToInt, Int32.reduceOfNat, Nat.reduceAdd, Nat.reduceSub, Nat.reduceMul, Nat.reduceLeDiff, Nat.reduceEqDiff, zF_n, zF_k, kx_0, kx_211, zF_L, zF_x, s1.1.n, s1.1.k, s1.2.1, s1.2.2, s2.1.n, s2.1.k, s2.2.1, s2.2.2, lcm_s]
theorem law_22 {xs : Nat → Int32} (hx : xs 0 &&& 31 = 22) : Ok1 xs := by
  obtain ⟨r, h1, h2, e1, s1, e2, s2⟩ := Ag_e (g_sheet (L := 5) (xs := xs) (xs 1) (xs 2) (xs 3))
  refine ⟨h2, ?_, s2.1⟩
  simp +decide only [b243_26_c22, b243_783, b243_802, b243_821, b243_824, b243_958, b243_18, b243_964, hx, e1, e2, Option.bind_some, Option.toList_some, Option.toList_none, List.cons_append, List.nil_append, List.append_nil, zq_rf, or_false, false_or, or_true, true_or, not_false_eq_true, not_true_eq_false, and_true, true_and, and_false, false_and, and_self, or_self, ite_true, ite_false, ↓reduceIte, Int32.reduceAdd, Int32.reduceSub, Int32.reduceMul, Int32.reduceDiv, Int32.reduceLT, Int32.reduceLE, Int32.reduceToNatClampNeg, Int32.reduceToInt, Int32.reduceOfNat, Nat.reduceAdd, Nat.reduceSub, Nat.reduceMul, Nat.reduceLeDiff, Nat.reduceEqDiff, zF_n, zF_k, kx_0, kx_211, zF_L, zF_x, s1.1.n, s1.1.k, s1.2.1, s1.2.2, s2.1.n, s2.1.k, s2.2.1, s2.2.2, lcm_s]
theorem law_23 {xs : Nat → Int32} (hx : xs 0 &&& 31 = 23) : Ok1 xs := by
  obtain ⟨r, h1, h2, e1, s1, e2, s2⟩ := Ag_e (g_lay (L := 5) (xs := xs) (xs 1) (xs 2) (xs 3))
  refine ⟨h2, ?_, s2.1⟩
  simp +decide only [b243_26_c23, b243_826, b243_845, b243_864, b243_867, b243_958, b243_18, b243_964, hx, e1, e2, Option.bind_some, Option.toList_some, Option.toList_none, List.cons_append, List.nil_append, List.append_nil, zq_rf, or_false, false_or, or_true, true_or, not_false_eq_true, not_true_eq_false, and_true, true_and, and_false, false_and, and_self, or_self, ite_true, ite_false, ↓reduceIte, Int32.reduceAdd, Int32.reduceSub, Int32.reduceMul, Int32.reduceDiv, Int32.reduceLT, Int32.reduceLE, Int32.reduceToNatClampNeg, Int32.reduceToInt, Int32.reduceOfNat, Nat.reduceAdd, Nat.reduceSub, Nat.reduceMul, Nat.reduceLeDiff, Nat.reduceEqDiff, zF_n, zF_k, kx_0, kx_211, zF_L, zF_x, s1.1.n, s1.1.k, s1.2.1, s1.2.2, s2.1.n, s2.1.k, s2.2.1, s2.2.2, lcm_s]
theorem law_24 {xs : Nat → Int32} (hx : xs 0 &&& 31 = 24) : Ok1 xs := by
  obtain ⟨r, h1, h2, e1, s1, e2, s2⟩ := Ag_e (g_read (L := 5) (xs := xs) (xs 1) (xs 2) (xs 3) (xs 4))
  refine ⟨h2, ?_, s2.1⟩
  simp +decide only [b243_26_c24, b243_869, b243_893, b243_917, b243_920, b243_958, b243_18, b243_964, hx, e1, e2, Option.bind_some, Option.toList_some, Option.toList_none, List.cons_append, List.nil_append, List.append_nil, zq_rf, or_false, false_or, or_true, true_or, not_false_eq_true, not_true_eq_false, and_true, true_and, and_false, false_and, and_self, or_self, ite_true, ite_false, ↓reduceIte, Int32.reduceAdd, Int32.reduceSub, Int32.reduceMul, Int32.reduceDiv, Int32.reduceLT, Int32.reduceLE, Int32.reduceToNatClampNeg, Int32.reduceToInt, Int32.reduceOfNat, Nat.reduceAdd, Nat.reduceSub, Nat.reduceMul, Nat.reduceLeDiff, Nat.reduceEqDiff, zF_n, zF_k, kx_0, kx_211, zF_L, zF_x, s1.1.n, s1.1.k, s1.2.1, s1.2.2, s2.1.n, s2.1.k, s2.2.1, s2.2.2, lcm_s]
theorem law_25 {xs : Nat → Int32} (hx : xs 0 &&& 31 = 25) : Ok1 xs := by
  obtain ⟨r, h1, h2, e1, s1, e2, s2⟩ := Ag_e (g_torn (L := 5) (xs := xs))
  refine ⟨h2, ?_, s2.1⟩
  simp +decide only [b243_26_c25, b243_922, b243_926, b243_930, b243_933, b243_958, b243_18, b243_964, hx, e1, e2, Option.bind_some, Option.toList_some, Option.toList_none, List.cons_append, List.nil_append, List.append_nil, zq_rf, or_false, false_or, or_true, true_or, not_false_eq_true, not_true_eq_false, and_true, true_and, and_false, false_and, and_self, or_self, ite_true, ite_false, ↓reduceIte, Int32.reduceAdd, Int32.reduceSub, Int32.reduceMul, Int32.reduceDiv, Int32.reduceLT, Int32.reduceLE, Int32.reduceToNatClampNeg, Int32.reduceToInt, Int32.reduceOfNat, Nat.reduceAdd, Nat.reduceSub, Nat.reduceMul, Nat.reduceLeDiff, Nat.reduceEqDiff, zF_n, zF_k, kx_0, kx_211, zF_L, zF_x, s1.1.n, s1.1.k, s1.2.1, s1.2.2, s2.1.n, s2.1.k, s2.2.1, s2.2.2, lcm_s]
theorem law_26 {xs : Nat → Int32} (hx : xs 0 &&& 31 = 26) : Ok1 xs := by
  obtain ⟨r, h1, h2, e1, s1, e2, s2⟩ := Ag_e (g_count (L := 5) (xs := xs) (xs 1))
  refine ⟨h2, ?_, s2.1⟩
  simp +decide only [b243_26_c26, b243_935, b243_944, b243_953, b243_956, b243_958, b243_18, b243_964, hx, e1, e2, Option.bind_some, Option.toList_some, Option.toList_none, List.cons_append, List.nil_append, List.append_nil, zq_rf, or_false, false_or, or_true, true_or, not_false_eq_true, not_true_eq_false, and_true, true_and, and_false, false_and, and_self, or_self, ite_true, ite_false, ↓reduceIte, Int32.reduceAdd, Int32.reduceSub, Int32.reduceMul, Int32.reduceDiv, Int32.reduceLT, Int32.reduceLE, Int32.reduceToNatClampNeg, Int32.reduceToInt, Int32.reduceOfNat, Nat.reduceAdd, Nat.reduceSub, Nat.reduceMul, Nat.reduceLeDiff, Nat.reduceEqDiff, zF_n, zF_k, kx_0, kx_211, zF_L, zF_x, s1.1.n, s1.1.k, s1.2.1, s1.2.2, s2.1.n, s2.1.k, s2.2.1, s2.2.2, lcm_s]
theorem law_d {xs : Nat → Int32} (hx : (xs 0 &&& 31).toInt < 0 ∨ 26 < (xs 0 &&& 31).toInt) : Ok1 xs := by
  refine ⟨zF 5 xs, ?_, zF_Sh⟩
  simp +decide only [b243_26_d, b243_958, b243_18, b243_964, hx, Option.bind_some, Option.toList_some, Option.toList_none, List.cons_append, List.nil_append, List.append_nil, zq_rf, or_false, false_or, or_true, true_or, not_false_eq_true, not_true_eq_false, and_true, true_and, and_false, false_and, and_self, or_self, ite_true, ite_false, ↓reduceIte, Int32.reduceAdd, Int32.reduceSub, Int32.reduceMul, Int32.reduceDiv, Int32.reduceLT, Int32.reduceLE, Int32.reduceToNatClampNeg, Int32.reduceToInt, Int32.reduceOfNat, Nat.reduceAdd, Nat.reduceSub, Nat.reduceMul, Nat.reduceLeDiff, Nat.reduceEqDiff, zF_n, zF_k, kx_0, kx_211, zF_L, zF_x]
theorem law_any {xs : Nat → Int32} : Ok1 xs := by
  by_cases hd : (xs 0 &&& 31).toInt < 0 ∨ 26 < (xs 0 &&& 31).toInt
  · exact law_d hd
  · rcases fn_26 hd with h | h | h | h | h | h | h | h | h | h | h | h | h | h | h | h | h | h | h | h | h | h | h | h | h | h | h
    · exact law_0 h
    · exact law_1 h
    · exact law_2 h
    · exact law_3 h
    · exact law_4 h
    · exact law_5 h
    · exact law_6 h
    · exact law_7 h
    · exact law_8 h
    · exact law_9 h
    · exact law_10 h
    · exact law_11 h
    · exact law_12 h
    · exact law_13 h
    · exact law_14 h
    · exact law_15 h
    · exact law_16 h
    · exact law_17 h
    · exact law_18 h
    · exact law_19 h
    · exact law_20 h
    · exact law_21 h
    · exact law_22 h
    · exact law_23 h
    · exact law_24 h
    · exact law_25 h
    · exact law_26 h
theorem law_all {L : Nat} {xs : Nat → Int32} (hL : L ≤ 5) : ∃ hF, zv 18 243 0 [.retAddr 0, .double 0, .double 0, .double 0] [] (zi_h0 L xs) = some (some (.int 1), hF) ∧ Sh hF := by
  rw [ct243, b243_18]
  have h5 : L = 0 ∨ L = 1 ∨ L = 2 ∨ L = 3 ∨ L = 4 ∨ L = 5 := by omega
  rcases h5 with rfl | rfl | rfl | rfl | rfl | rfl
  · exact ⟨_, by rw [zF_L, if_pos (by decide), b243_964], zF_Sh⟩
  · exact ⟨_, by rw [zF_L, if_pos (by decide), b243_964], zF_Sh⟩
  · exact ⟨_, by rw [zF_L, if_pos (by decide), b243_964], zF_Sh⟩
  · exact ⟨_, by rw [zF_L, if_pos (by decide), b243_964], zF_Sh⟩
  · exact ⟨_, by rw [zF_L, if_pos (by decide), b243_964], zF_Sh⟩
  · obtain ⟨hF, e, s⟩ := law_any (xs := xs)
    refine ⟨hF, ?_, s⟩
    rw [zF_L, if_neg (by decide)]
    exact e
