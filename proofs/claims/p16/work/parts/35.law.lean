/-! THE LAW: its turns -/
def LW (L k : Nat) (h : zi_Hp) : Prop := ∃ h', zv 18 243 26 [.retAddr 0, .ref 0, .ref 211, .int (nI k)] [] h = zv 18 243 957 [.retAddr 0, .ref 0, .ref 211, .int (nI k)] [] h' ∧ R3 L h'
section R35
variable {h h1 h2 : zi_Hp} {L : Nat}
theorem gi_j {k j : Nat} (hk : k + 5 ≤ L) (hL : L ≤ 2560) (hj : j < 5) : ¬ (nI k + nI j < 0 ∨ L ≤ (nI k + nI j).toNatClampNeg) := by
  rw [nI_add]
  exact zj_n (by omega) (by omega)
theorem gi_0 {k : Nat} (hk : k + 5 ≤ L) (hL : L ≤ 2560) : ¬ (nI k < 0 ∨ L ≤ (nI k).toNatClampNeg) := zj_n (by omega) (by omega)
theorem gi_1 {k : Nat} (hk : k + 5 ≤ L) (hL : L ≤ 2560) : ¬ (nI k + 1 < 0 ∨ L ≤ (nI k + 1).toNatClampNeg) := gi_j (j := 1) hk hL (by decide)
theorem gi_2 {k : Nat} (hk : k + 5 ≤ L) (hL : L ≤ 2560) : ¬ (nI k + 2 < 0 ∨ L ≤ (nI k + 2).toNatClampNeg) := gi_j (j := 2) hk hL (by decide)
theorem gi_3 {k : Nat} (hk : k + 5 ≤ L) (hL : L ≤ 2560) : ¬ (nI k + 3 < 0 ∨ L ≤ (nI k + 3).toNatClampNeg) := gi_j (j := 3) hk hL (by decide)
theorem gi_4 {k : Nat} (hk : k + 5 ≤ L) (hL : L ≤ 2560) : ¬ (nI k + 4 < 0 ∨ L ≤ (nI k + 4).toNatClampNeg) := gi_j (j := 4) hk hL (by decide)
theorem lw_0 (R : R3 L h) {k : Nat} (hk : k + 5 ≤ L) (hL : L ≤ 2560) (hx : zh_x h (nI k).toNatClampNeg &&& 31 = 0) : LW L k h := by
  have al : Al2 L h (zv 2 105 0 [.ref 0, .int (zh_x h (nI k + 1).toNatClampNeg)] [] h) (fun m => zv 2 180 0 [.ref 211, .int (zh_x h (nI k + 1).toNatClampNeg)] [] m) := (a_feed R _).al2
  obtain ⟨v, v2, h1, h2, e1, S1, eL1, ex, e2, R9⟩ := al
  have e2q : zv 2 180 0 [.ref 211, .int (zh_x h (nI k + 1).toNatClampNeg)] [] h1 = some (some (.int v2), h2) := e2
  have S := R.1.1
  have eL : zh_L h = L := R.2.2.2.2
  have gi0 := gi_0 hk hL
  have gi1 := gi_1 hk hL
  have gi2 := gi_2 hk hL
  have gi3 := gi_3 hk hL
  have gi4 := gi_4 hk hL
  exact ⟨h2, by simp +decide only [b243_26_c0, b243_156, b243_165, b243_175, S.n, S.k, S1.n, S1.k, kx_0, kx_211, eL, eL1, ex, gi0, gi1, gi2, gi3, gi4, hx, e1, e2q, Option.bind_some, Option.toList_some, Option.toList_none, List.cons_append, List.nil_append, ↓reduceIte], R9⟩
theorem lw_1 (R : R3 L h) {k : Nat} (hk : k + 5 ≤ L) (hL : L ≤ 2560) (hx : zh_x h (nI k).toNatClampNeg &&& 31 = 1) : LW L k h := by
  have al : Al2 L h (zv 1 106 0 [.ref 0, .int (zh_x h (nI k + 1).toNatClampNeg), .double 0] [] h) (fun m => zv 2 181 0 [.ref 211, .int (zh_x h (nI k + 1).toNatClampNeg), .double 0] [] m) := (a_end R _).al2
  obtain ⟨v, v2, h1, h2, e1, S1, eL1, ex, e2, R9⟩ := al
  have e2q : zv 2 181 0 [.ref 211, .int (zh_x h (nI k + 1).toNatClampNeg), .double 0] [] h1 = some (some (.int v2), h2) := e2
  have S := R.1.1
  have eL : zh_L h = L := R.2.2.2.2
  have gi0 := gi_0 hk hL
  have gi1 := gi_1 hk hL
  have gi2 := gi_2 hk hL
  have gi3 := gi_3 hk hL
  have gi4 := gi_4 hk hL
  exact ⟨h2, by simp +decide only [b243_26_c1, b243_179, b243_188, b243_198, S.n, S.k, S1.n, S1.k, kx_0, kx_211, eL, eL1, ex, gi0, gi1, gi2, gi3, gi4, hx, e1, e2q, Option.bind_some, Option.toList_some, Option.toList_none, List.cons_append, List.nil_append, ↓reduceIte], R9⟩
theorem lw_2 (R : R3 L h) {k : Nat} (hk : k + 5 ≤ L) (hL : L ≤ 2560) (hx : zh_x h (nI k).toNatClampNeg &&& 31 = 2) : LW L k h := by
  have al : Al2 L h (zv 8 107 0 [.ref 0] [] h) (fun m => zv 8 192 0 [.ref 211, .double 0, .double 0] [] m) := (a_text R).al2
  obtain ⟨v, v2, h1, h2, e1, S1, eL1, ex, e2, R9⟩ := al
  have e2q : zv 8 192 0 [.ref 211, .double 0, .double 0] [] h1 = some (some (.int v2), h2) := e2
  have S := R.1.1
  have eL : zh_L h = L := R.2.2.2.2
  have gi0 := gi_0 hk hL
  have gi1 := gi_1 hk hL
  have gi2 := gi_2 hk hL
  have gi3 := gi_3 hk hL
  have gi4 := gi_4 hk hL
  exact ⟨h2, by simp +decide only [b243_26_c2, b243_202, b243_206, b243_211, S.n, S.k, S1.n, S1.k, kx_0, kx_211, eL, eL1, ex, gi0, gi1, gi2, gi3, gi4, hx, e1, e2q, Option.bind_some, Option.toList_some, Option.toList_none, List.cons_append, List.nil_append, ↓reduceIte], R9⟩
theorem lw_3 (R : R3 L h) {k : Nat} (hk : k + 5 ≤ L) (hL : L ≤ 2560) (hx : zh_x h (nI k).toNatClampNeg &&& 31 = 3) : LW L k h := by
  have al : Al2 L h (zv 1 108 0 [.ref 0] [] h) (fun m => zv 1 193 0 [.ref 211] [] m) := a_fault R 
  obtain ⟨v, v2, h1, h2, e1, S1, eL1, ex, e2, R9⟩ := al
  have e2q : zv 1 193 0 [.ref 211] [] h1 = some (some (.int v2), h2) := e2
  have S := R.1.1
  have eL : zh_L h = L := R.2.2.2.2
  have gi0 := gi_0 hk hL
  have gi1 := gi_1 hk hL
  have gi2 := gi_2 hk hL
  have gi3 := gi_3 hk hL
  have gi4 := gi_4 hk hL
  exact ⟨h2, by simp +decide only [b243_26_c3, b243_215, b243_219, b243_224, S.n, S.k, S1.n, S1.k, kx_0, kx_211, eL, eL1, ex, gi0, gi1, gi2, gi3, gi4, hx, e1, e2q, Option.bind_some, Option.toList_some, Option.toList_none, List.cons_append, List.nil_append, ↓reduceIte], R9⟩
theorem lw_4 (R : R3 L h) {k : Nat} (hk : k + 5 ≤ L) (hL : L ≤ 2560) (hx : zh_x h (nI k).toNatClampNeg &&& 31 = 4) : LW L k h := by
  have al : Al2 L h (zv 6 109 0 [.ref 0, .int (zh_x h (nI k + 1).toNatClampNeg)] [] h) (fun m => zv 6 201 0 [.ref 211, .int (zh_x h (nI k + 1).toNatClampNeg)] [] m) := (a_rule R _).al2
  obtain ⟨v, v2, h1, h2, e1, S1, eL1, ex, e2, R9⟩ := al
  have e2q : zv 6 201 0 [.ref 211, .int (zh_x h (nI k + 1).toNatClampNeg)] [] h1 = some (some (.int v2), h2) := e2
  have S := R.1.1
  have eL : zh_L h = L := R.2.2.2.2
  have gi0 := gi_0 hk hL
  have gi1 := gi_1 hk hL
  have gi2 := gi_2 hk hL
  have gi3 := gi_3 hk hL
  have gi4 := gi_4 hk hL
  exact ⟨h2, by simp +decide only [b243_26_c4, b243_228, b243_237, b243_247, S.n, S.k, S1.n, S1.k, kx_0, kx_211, eL, eL1, ex, gi0, gi1, gi2, gi3, gi4, hx, e1, e2q, Option.bind_some, Option.toList_some, Option.toList_none, List.cons_append, List.nil_append, ↓reduceIte], R9⟩
theorem lw_5 (R : R3 L h) {k : Nat} (hk : k + 5 ≤ L) (hL : L ≤ 2560) (hx : zh_x h (nI k).toNatClampNeg &&& 31 = 5) : LW L k h := by
  have al : Al2 L h (zv 3 110 0 [.ref 0, .int (zh_x h (nI k + 1).toNatClampNeg), .int (zh_x h (nI k + 2).toNatClampNeg), .double 0] [] h) (fun m => zv 3 202 0 [.ref 211, .int (zh_x h (nI k + 1).toNatClampNeg), .int (zh_x h (nI k + 2).toNatClampNeg)] [] m) := (a_node R _ _).al2
  obtain ⟨v, v2, h1, h2, e1, S1, eL1, ex, e2, R9⟩ := al
  have e2q : zv 3 202 0 [.ref 211, .int (zh_x h (nI k + 1).toNatClampNeg), .int (zh_x h (nI k + 2).toNatClampNeg)] [] h1 = some (some (.int v2), h2) := e2
  have S := R.1.1
  have eL : zh_L h = L := R.2.2.2.2
  have gi0 := gi_0 hk hL
  have gi1 := gi_1 hk hL
  have gi2 := gi_2 hk hL
  have gi3 := gi_3 hk hL
  have gi4 := gi_4 hk hL
  exact ⟨h2, by simp +decide only [b243_26_c5, b243_251, b243_265, b243_280, S.n, S.k, S1.n, S1.k, kx_0, kx_211, eL, eL1, ex, gi0, gi1, gi2, gi3, gi4, hx, e1, e2q, Option.bind_some, Option.toList_some, Option.toList_none, List.cons_append, List.nil_append, ↓reduceIte], R9⟩
theorem lw_6 (R : R3 L h) {k : Nat} (hk : k + 5 ≤ L) (hL : L ≤ 2560) (hx : zh_x h (nI k).toNatClampNeg &&& 31 = 6) : LW L k h := by
  have al : Al2 L h (zv 3 111 0 [.ref 0, .int (zh_x h (nI k + 1).toNatClampNeg), .int (zh_x h (nI k + 2).toNatClampNeg), .int (zh_x h (nI k + 3).toNatClampNeg), .double 0] [] h) (fun m => zv 3 203 0 [.ref 211, .int (zh_x h (nI k + 1).toNatClampNeg), .int (zh_x h (nI k + 2).toNatClampNeg), .int (zh_x h (nI k + 3).toNatClampNeg)] [] m) := (a_entry R _ _ _).al2
  obtain ⟨v, v2, h1, h2, e1, S1, eL1, ex, e2, R9⟩ := al
  have e2q : zv 3 203 0 [.ref 211, .int (zh_x h (nI k + 1).toNatClampNeg), .int (zh_x h (nI k + 2).toNatClampNeg), .int (zh_x h (nI k + 3).toNatClampNeg)] [] h1 = some (some (.int v2), h2) := e2
  have S := R.1.1
  have eL : zh_L h = L := R.2.2.2.2
  have gi0 := gi_0 hk hL
  have gi1 := gi_1 hk hL
  have gi2 := gi_2 hk hL
  have gi3 := gi_3 hk hL
  have gi4 := gi_4 hk hL
  exact ⟨h2, by simp +decide only [b243_26_c6, b243_284, b243_303, b243_323, S.n, S.k, S1.n, S1.k, kx_0, kx_211, eL, eL1, ex, gi0, gi1, gi2, gi3, gi4, hx, e1, e2q, Option.bind_some, Option.toList_some, Option.toList_none, List.cons_append, List.nil_append, ↓reduceIte], R9⟩
theorem lw_7 (R : R3 L h) {k : Nat} (hk : k + 5 ≤ L) (hL : L ≤ 2560) (hx : zh_x h (nI k).toNatClampNeg &&& 31 = 7) : LW L k h := by
  have al : Al2 L h (zv 2 112 0 [.ref 0, .int (zh_x h (nI k + 1).toNatClampNeg), .int (zh_x h (nI k + 2).toNatClampNeg), .double 0] [] h) (fun m => zv 3 204 0 [.ref 211, .int (zh_x h (nI k + 1).toNatClampNeg), .int (zh_x h (nI k + 2).toNatClampNeg)] [] m) := (a_client R _ _).al2
  obtain ⟨v, v2, h1, h2, e1, S1, eL1, ex, e2, R9⟩ := al
  have e2q : zv 3 204 0 [.ref 211, .int (zh_x h (nI k + 1).toNatClampNeg), .int (zh_x h (nI k + 2).toNatClampNeg)] [] h1 = some (some (.int v2), h2) := e2
  have S := R.1.1
  have eL : zh_L h = L := R.2.2.2.2
  have gi0 := gi_0 hk hL
  have gi1 := gi_1 hk hL
  have gi2 := gi_2 hk hL
  have gi3 := gi_3 hk hL
  have gi4 := gi_4 hk hL
  exact ⟨h2, by simp +decide only [b243_26_c7, b243_327, b243_341, b243_356, S.n, S.k, S1.n, S1.k, kx_0, kx_211, eL, eL1, ex, gi0, gi1, gi2, gi3, gi4, hx, e1, e2q, Option.bind_some, Option.toList_some, Option.toList_none, List.cons_append, List.nil_append, ↓reduceIte], R9⟩
theorem lw_8 (R : R3 L h) {k : Nat} (hk : k + 5 ≤ L) (hL : L ≤ 2560) (hx : zh_x h (nI k).toNatClampNeg &&& 31 = 8) : LW L k h := by
  have al : Al2 L h (zv 2 113 0 [.ref 0, .int (zh_x h (nI k + 1).toNatClampNeg)] [] h) (fun m => zv 4 205 0 [.ref 211, .int (zh_x h (nI k + 1).toNatClampNeg)] [] m) := (a_there R _).al2
  obtain ⟨v, v2, h1, h2, e1, S1, eL1, ex, e2, R9⟩ := al
  have e2q : zv 4 205 0 [.ref 211, .int (zh_x h (nI k + 1).toNatClampNeg)] [] h1 = some (some (.int v2), h2) := e2
  have S := R.1.1
  have eL : zh_L h = L := R.2.2.2.2
  have gi0 := gi_0 hk hL
  have gi1 := gi_1 hk hL
  have gi2 := gi_2 hk hL
  have gi3 := gi_3 hk hL
  have gi4 := gi_4 hk hL
  exact ⟨h2, by simp +decide only [b243_26_c8, b243_360, b243_369, b243_379, S.n, S.k, S1.n, S1.k, kx_0, kx_211, eL, eL1, ex, gi0, gi1, gi2, gi3, gi4, hx, e1, e2q, Option.bind_some, Option.toList_some, Option.toList_none, List.cons_append, List.nil_append, ↓reduceIte], R9⟩
theorem lw_9 (R : R3 L h) {k : Nat} (hk : k + 5 ≤ L) (hL : L ≤ 2560) (hx : zh_x h (nI k).toNatClampNeg &&& 31 = 9) : LW L k h := by
  have al : Al2 L h (zv 5 114 0 [.ref 0, .int (zh_x h (nI k + 1).toNatClampNeg), .int (zh_x h (nI k + 2).toNatClampNeg), .int (zh_x h (nI k + 3).toNatClampNeg), .double 0] [] h) (fun m => zv 5 206 0 [.ref 211, .int (zh_x h (nI k + 1).toNatClampNeg), .int (zh_x h (nI k + 2).toNatClampNeg), .int (zh_x h (nI k + 3).toNatClampNeg), .double 0] [] m) := (a_begin R _ _ _).al2
  obtain ⟨v, v2, h1, h2, e1, S1, eL1, ex, e2, R9⟩ := al
  have e2q : zv 5 206 0 [.ref 211, .int (zh_x h (nI k + 1).toNatClampNeg), .int (zh_x h (nI k + 2).toNatClampNeg), .int (zh_x h (nI k + 3).toNatClampNeg), .double 0] [] h1 = some (some (.int v2), h2) := e2
  have S := R.1.1
  have eL : zh_L h = L := R.2.2.2.2
  have gi0 := gi_0 hk hL
  have gi1 := gi_1 hk hL
  have gi2 := gi_2 hk hL
  have gi3 := gi_3 hk hL
  have gi4 := gi_4 hk hL
  exact ⟨h2, by simp +decide only [b243_26_c9, b243_383, b243_402, b243_422, S.n, S.k, S1.n, S1.k, kx_0, kx_211, eL, eL1, ex, gi0, gi1, gi2, gi3, gi4, hx, e1, e2q, Option.bind_some, Option.toList_some, Option.toList_none, List.cons_append, List.nil_append, ↓reduceIte], R9⟩
theorem lw_10 (R : R3 L h) {k : Nat} (hk : k + 5 ≤ L) (hL : L ≤ 2560) (hx : zh_x h (nI k).toNatClampNeg &&& 31 = 10) : LW L k h := by
  have al : Al2 L h (zv 6 115 0 [.ref 0, .int (zh_x h (nI k + 1).toNatClampNeg)] [] h) (fun m => zv 7 207 0 [.ref 211, .int (zh_x h (nI k + 1).toNatClampNeg)] [] m) := (a_step R _).al2
  obtain ⟨v, v2, h1, h2, e1, S1, eL1, ex, e2, R9⟩ := al
  have e2q : zv 7 207 0 [.ref 211, .int (zh_x h (nI k + 1).toNatClampNeg)] [] h1 = some (some (.int v2), h2) := e2
  have S := R.1.1
  have eL : zh_L h = L := R.2.2.2.2
  have gi0 := gi_0 hk hL
  have gi1 := gi_1 hk hL
  have gi2 := gi_2 hk hL
  have gi3 := gi_3 hk hL
  have gi4 := gi_4 hk hL
  exact ⟨h2, by simp +decide only [b243_26_c10, b243_426, b243_435, b243_445, S.n, S.k, S1.n, S1.k, kx_0, kx_211, eL, eL1, ex, gi0, gi1, gi2, gi3, gi4, hx, e1, e2q, Option.bind_some, Option.toList_some, Option.toList_none, List.cons_append, List.nil_append, ↓reduceIte], R9⟩
theorem lw_11 (R : R3 L h) {k : Nat} (hk : k + 5 ≤ L) (hL : L ≤ 2560) (hx : zh_x h (nI k).toNatClampNeg &&& 31 = 11) : LW L k h := by
  have al : Al2 L h (zv 7 116 0 [.ref 0, .int (zh_x h (nI k + 1).toNatClampNeg), .int (zh_x h (nI k + 2).toNatClampNeg)] [] h) (fun m => zv 8 208 0 [.ref 211, .int (zh_x h (nI k + 1).toNatClampNeg), .int (zh_x h (nI k + 2).toNatClampNeg)] [] m) := (a_go R _ _).al2
  obtain ⟨v, v2, h1, h2, e1, S1, eL1, ex, e2, R9⟩ := al
  have e2q : zv 8 208 0 [.ref 211, .int (zh_x h (nI k + 1).toNatClampNeg), .int (zh_x h (nI k + 2).toNatClampNeg)] [] h1 = some (some (.int v2), h2) := e2
  have S := R.1.1
  have eL : zh_L h = L := R.2.2.2.2
  have gi0 := gi_0 hk hL
  have gi1 := gi_1 hk hL
  have gi2 := gi_2 hk hL
  have gi3 := gi_3 hk hL
  have gi4 := gi_4 hk hL
  exact ⟨h2, by simp +decide only [b243_26_c11, b243_449, b243_463, b243_478, S.n, S.k, S1.n, S1.k, kx_0, kx_211, eL, eL1, ex, gi0, gi1, gi2, gi3, gi4, hx, e1, e2q, Option.bind_some, Option.toList_some, Option.toList_none, List.cons_append, List.nil_append, ↓reduceIte], R9⟩
theorem lw_12 (R : R3 L h) {k : Nat} (hk : k + 5 ≤ L) (hL : L ≤ 2560) (hx : zh_x h (nI k).toNatClampNeg &&& 31 = 12) : LW L k h := by
  have al : Al2 L h (zv 2 117 0 [.ref 0, .int (zh_x h (nI k + 1).toNatClampNeg), .double 0] [] h) (fun m => zv 3 209 0 [.ref 211, .int (zh_x h (nI k + 1).toNatClampNeg)] [] m) := (a_drop R _).al2
  obtain ⟨v, v2, h1, h2, e1, S1, eL1, ex, e2, R9⟩ := al
  have e2q : zv 3 209 0 [.ref 211, .int (zh_x h (nI k + 1).toNatClampNeg)] [] h1 = some (some (.int v2), h2) := e2
  have S := R.1.1
  have eL : zh_L h = L := R.2.2.2.2
  have gi0 := gi_0 hk hL
  have gi1 := gi_1 hk hL
  have gi2 := gi_2 hk hL
  have gi3 := gi_3 hk hL
  have gi4 := gi_4 hk hL
  exact ⟨h2, by simp +decide only [b243_26_c12, b243_482, b243_491, b243_501, S.n, S.k, S1.n, S1.k, kx_0, kx_211, eL, eL1, ex, gi0, gi1, gi2, gi3, gi4, hx, e1, e2q, Option.bind_some, Option.toList_some, Option.toList_none, List.cons_append, List.nil_append, ↓reduceIte], R9⟩
theorem lw_13 (R : R3 L h) {k : Nat} (hk : k + 5 ≤ L) (hL : L ≤ 2560) (hx : zh_x h (nI k).toNatClampNeg &&& 31 = 13) : LW L k h := by
  have al : Al2 L h (zv 2 118 0 [.ref 0, .int (zh_x h (nI k + 1).toNatClampNeg), .double 0] [] h) (fun m => zv 2 210 0 [.ref 211, .int (zh_x h (nI k + 1).toNatClampNeg), .double 0] [] m) := (a_room R _).al2
  obtain ⟨v, v2, h1, h2, e1, S1, eL1, ex, e2, R9⟩ := al
  have e2q : zv 2 210 0 [.ref 211, .int (zh_x h (nI k + 1).toNatClampNeg), .double 0] [] h1 = some (some (.int v2), h2) := e2
  have S := R.1.1
  have eL : zh_L h = L := R.2.2.2.2
  have gi0 := gi_0 hk hL
  have gi1 := gi_1 hk hL
  have gi2 := gi_2 hk hL
  have gi3 := gi_3 hk hL
  have gi4 := gi_4 hk hL
  exact ⟨h2, by simp +decide only [b243_26_c13, b243_505, b243_514, b243_524, S.n, S.k, S1.n, S1.k, kx_0, kx_211, eL, eL1, ex, gi0, gi1, gi2, gi3, gi4, hx, e1, e2q, Option.bind_some, Option.toList_some, Option.toList_none, List.cons_append, List.nil_append, ↓reduceIte], R9⟩
theorem lw_14 (R : R3 L h) {k : Nat} (hk : k + 5 ≤ L) (hL : L ≤ 2560) (hx : zh_x h (nI k).toNatClampNeg &&& 31 = 14) : LW L k h := by
  have al : Al L h (zv 17 119 0 [.ref 0, .int (zh_x h (nI k + 1).toNatClampNeg), .int (zh_x h (nI k + 2).toNatClampNeg)] [] h) (fun m => zv 8 218 0 [.ref 211, .int (zh_x h (nI k + 1).toNatClampNeg), .int (zh_x h (nI k + 2).toNatClampNeg)] [] m) := a_rowsx R _ _
  obtain ⟨v, h1, h2, e1, S1, eL1, ex, e2, R9⟩ := al
  have e2q : zv 8 218 0 [.ref 211, .int (zh_x h (nI k + 1).toNatClampNeg), .int (zh_x h (nI k + 2).toNatClampNeg)] [] h1 = some (some (.int v), h2) := e2
  have S := R.1.1
  have eL : zh_L h = L := R.2.2.2.2
  have gi0 := gi_0 hk hL
  have gi1 := gi_1 hk hL
  have gi2 := gi_2 hk hL
  have gi3 := gi_3 hk hL
  have gi4 := gi_4 hk hL
  exact ⟨h2, by simp +decide only [b243_26_c14, b243_528, b243_542, b243_556, S.n, S.k, S1.n, S1.k, kx_0, kx_211, eL, eL1, ex, gi0, gi1, gi2, gi3, gi4, hx, e1, e2q, Option.bind_some, Option.toList_some, Option.toList_none, List.cons_append, List.nil_append, ↓reduceIte], R9⟩
theorem lw_15 (R : R3 L h) {k : Nat} (hk : k + 5 ≤ L) (hL : L ≤ 2560) (hx : zh_x h (nI k).toNatClampNeg &&& 31 = 15) : LW L k h := by
  have al : Al2 L h (zv 17 120 0 [.ref 0, .int (zh_x h (nI k + 1).toNatClampNeg), .int (zh_x h (nI k + 2).toNatClampNeg), .int (zh_x h (nI k + 3).toNatClampNeg)] [] h) (fun m => zv 8 220 0 [.ref 211, .int (zh_x h (nI k + 1).toNatClampNeg), .int (zh_x h (nI k + 2).toNatClampNeg), .int (zh_x h (nI k + 3).toNatClampNeg)] [] m) := a_answers R _ _ _
  obtain ⟨v, v2, h1, h2, e1, S1, eL1, ex, e2, R9⟩ := al
  have e2q : zv 8 220 0 [.ref 211, .int (zh_x h (nI k + 1).toNatClampNeg), .int (zh_x h (nI k + 2).toNatClampNeg), .int (zh_x h (nI k + 3).toNatClampNeg)] [] h1 = some (some (.int v2), h2) := e2
  have S := R.1.1
  have eL : zh_L h = L := R.2.2.2.2
  have gi0 := gi_0 hk hL
  have gi1 := gi_1 hk hL
  have gi2 := gi_2 hk hL
  have gi3 := gi_3 hk hL
  have gi4 := gi_4 hk hL
  exact ⟨h2, by simp +decide only [b243_26_c15, b243_561, b243_580, b243_600, S.n, S.k, S1.n, S1.k, kx_0, kx_211, eL, eL1, ex, gi0, gi1, gi2, gi3, gi4, hx, e1, e2q, Option.bind_some, Option.toList_some, Option.toList_none, List.cons_append, List.nil_append, ↓reduceIte], R9⟩
theorem lw_16 (R : R3 L h) {k : Nat} (hk : k + 5 ≤ L) (hL : L ≤ 2560) (hx : zh_x h (nI k).toNatClampNeg &&& 31 = 16) : LW L k h := by
  have al : Al2 L h (zv 17 121 0 [.ref 0, .int (zh_x h (nI k + 1).toNatClampNeg), .int (zh_x h (nI k + 2).toNatClampNeg), .int (zh_x h (nI k + 3).toNatClampNeg)] [] h) (fun m => zv 8 221 0 [.ref 211, .int (zh_x h (nI k + 1).toNatClampNeg), .int (zh_x h (nI k + 2).toNatClampNeg), .int (zh_x h (nI k + 3).toNatClampNeg)] [] m) := a_first R _ _ _
  obtain ⟨v, v2, h1, h2, e1, S1, eL1, ex, e2, R9⟩ := al
  have e2q : zv 8 221 0 [.ref 211, .int (zh_x h (nI k + 1).toNatClampNeg), .int (zh_x h (nI k + 2).toNatClampNeg), .int (zh_x h (nI k + 3).toNatClampNeg)] [] h1 = some (some (.int v2), h2) := e2
  have S := R.1.1
  have eL : zh_L h = L := R.2.2.2.2
  have gi0 := gi_0 hk hL
  have gi1 := gi_1 hk hL
  have gi2 := gi_2 hk hL
  have gi3 := gi_3 hk hL
  have gi4 := gi_4 hk hL
  exact ⟨h2, by simp +decide only [b243_26_c16, b243_604, b243_623, b243_643, S.n, S.k, S1.n, S1.k, kx_0, kx_211, eL, eL1, ex, gi0, gi1, gi2, gi3, gi4, hx, e1, e2q, Option.bind_some, Option.toList_some, Option.toList_none, List.cons_append, List.nil_append, ↓reduceIte], R9⟩
theorem lw_17 (R : R3 L h) {k : Nat} (hk : k + 5 ≤ L) (hL : L ≤ 2560) (hx : zh_x h (nI k).toNatClampNeg &&& 31 = 17) : LW L k h := by
  have al : AlL2 L h (zv 17 122 0 [.ref 0, .int (zh_x h (nI k + 1).toNatClampNeg), .int (zh_x h (nI k + 2).toNatClampNeg), .int (zh_x h (nI k + 3).toNatClampNeg), .int (zh_x h (nI k + 4).toNatClampNeg), .double 0, .double 0] [] h) (fun m => zv 8 223 0 [.ref 211, .int (zh_x h (nI k + 1).toNatClampNeg), .int (zh_x h (nI k + 2).toNatClampNeg), .int (zh_x h (nI k + 3).toNatClampNeg), .int (zh_x h (nI k + 4).toNatClampNeg), .double 0, .double 0] [] m) := a_chance R _ _ _ _
  obtain ⟨v, v2, h1, h2, e1, S1, eL1, ex, e2, R9⟩ := al
  have e2q : zv 8 223 0 [.ref 211, .int (zh_x h (nI k + 1).toNatClampNeg), .int (zh_x h (nI k + 2).toNatClampNeg), .int (zh_x h (nI k + 3).toNatClampNeg), .int (zh_x h (nI k + 4).toNatClampNeg), .double 0, .double 0] [] h1 = some (some (.long v2), h2) := e2
  have S := R.1.1
  have eL : zh_L h = L := R.2.2.2.2
  have gi0 := gi_0 hk hL
  have gi1 := gi_1 hk hL
  have gi2 := gi_2 hk hL
  have gi3 := gi_3 hk hL
  have gi4 := gi_4 hk hL
  exact ⟨h2, by simp +decide only [b243_26_c17, b243_647, b243_671, b243_696, S.n, S.k, S1.n, S1.k, kx_0, kx_211, eL, eL1, ex, gi0, gi1, gi2, gi3, gi4, hx, e1, e2q, Option.bind_some, Option.toList_some, Option.toList_none, List.cons_append, List.nil_append, ↓reduceIte], R9⟩
theorem lw_18 (R : R3 L h) {k : Nat} (hk : k + 5 ≤ L) (hL : L ≤ 2560) (hx : zh_x h (nI k).toNatClampNeg &&& 31 = 18) : LW L k h := by
  have al : Al2 L h (zv 6 123 0 [.ref 0, .double 0] [] h) (fun m => zv 5 230 0 [.ref 211] [] m) := (a_check R).al2
  obtain ⟨v, v2, h1, h2, e1, S1, eL1, ex, e2, R9⟩ := al
  have e2q : zv 5 230 0 [.ref 211] [] h1 = some (some (.int v2), h2) := e2
  have S := R.1.1
  have eL : zh_L h = L := R.2.2.2.2
  have gi0 := gi_0 hk hL
  have gi1 := gi_1 hk hL
  have gi2 := gi_2 hk hL
  have gi3 := gi_3 hk hL
  have gi4 := gi_4 hk hL
  exact ⟨h2, by simp +decide only [b243_26_c18, b243_700, b243_704, b243_709, S.n, S.k, S1.n, S1.k, kx_0, kx_211, eL, eL1, ex, gi0, gi1, gi2, gi3, gi4, hx, e1, e2q, Option.bind_some, Option.toList_some, Option.toList_none, List.cons_append, List.nil_append, ↓reduceIte], R9⟩
theorem lw_19 (R : R3 L h) {k : Nat} (hk : k + 5 ≤ L) (hL : L ≤ 2560) (hx : zh_x h (nI k).toNatClampNeg &&& 31 = 19) : LW L k h := by
  have al : Al2 L h (zv 4 124 0 [.ref 0, .int (zh_x h (nI k + 1).toNatClampNeg)] [] h) (fun m => zv 2 231 0 [.ref 211, .int (zh_x h (nI k + 1).toNatClampNeg), .double 0, .double 0] [] m) := (a_leaf R _).al2
  obtain ⟨v, v2, h1, h2, e1, S1, eL1, ex, e2, R9⟩ := al
  have e2q : zv 2 231 0 [.ref 211, .int (zh_x h (nI k + 1).toNatClampNeg), .double 0, .double 0] [] h1 = some (some (.int v2), h2) := e2
  have S := R.1.1
  have eL : zh_L h = L := R.2.2.2.2
  have gi0 := gi_0 hk hL
  have gi1 := gi_1 hk hL
  have gi2 := gi_2 hk hL
  have gi3 := gi_3 hk hL
  have gi4 := gi_4 hk hL
  exact ⟨h2, by simp +decide only [b243_26_c19, b243_713, b243_722, b243_732, S.n, S.k, S1.n, S1.k, kx_0, kx_211, eL, eL1, ex, gi0, gi1, gi2, gi3, gi4, hx, e1, e2q, Option.bind_some, Option.toList_some, Option.toList_none, List.cons_append, List.nil_append, ↓reduceIte], R9⟩
theorem lw_20 (R : R3 L h) {k : Nat} (hk : k + 5 ≤ L) (hL : L ≤ 2560) (hx : zh_x h (nI k).toNatClampNeg &&& 31 = 20) : LW L k h := by
  have al : Al2 L h (zv 3 125 0 [.ref 0, .int (zh_x h (nI k + 1).toNatClampNeg), .double 0] [] h) (fun m => zv 2 232 0 [.ref 211, .int (zh_x h (nI k + 1).toNatClampNeg), .double 0, .double 0] [] m) := (a_keep R _).al2
  obtain ⟨v, v2, h1, h2, e1, S1, eL1, ex, e2, R9⟩ := al
  have e2q : zv 2 232 0 [.ref 211, .int (zh_x h (nI k + 1).toNatClampNeg), .double 0, .double 0] [] h1 = some (some (.int v2), h2) := e2
  have S := R.1.1
  have eL : zh_L h = L := R.2.2.2.2
  have gi0 := gi_0 hk hL
  have gi1 := gi_1 hk hL
  have gi2 := gi_2 hk hL
  have gi3 := gi_3 hk hL
  have gi4 := gi_4 hk hL
  exact ⟨h2, by simp +decide only [b243_26_c20, b243_736, b243_745, b243_755, S.n, S.k, S1.n, S1.k, kx_0, kx_211, eL, eL1, ex, gi0, gi1, gi2, gi3, gi4, hx, e1, e2q, Option.bind_some, Option.toList_some, Option.toList_none, List.cons_append, List.nil_append, ↓reduceIte], R9⟩
theorem lw_21 (R : R3 L h) {k : Nat} (hk : k + 5 ≤ L) (hL : L ≤ 2560) (hx : zh_x h (nI k).toNatClampNeg &&& 31 = 21) : LW L k h := by
  have al : Al2 L h (zv 3 126 0 [.ref 0, .int (zh_x h (nI k + 1).toNatClampNeg)] [] h) (fun m => zv 2 233 0 [.ref 211, .int (zh_x h (nI k + 1).toNatClampNeg), .double 0] [] m) := (a_back R _).al2
  obtain ⟨v, v2, h1, h2, e1, S1, eL1, ex, e2, R9⟩ := al
  have e2q : zv 2 233 0 [.ref 211, .int (zh_x h (nI k + 1).toNatClampNeg), .double 0] [] h1 = some (some (.int v2), h2) := e2
  have S := R.1.1
  have eL : zh_L h = L := R.2.2.2.2
  have gi0 := gi_0 hk hL
  have gi1 := gi_1 hk hL
  have gi2 := gi_2 hk hL
  have gi3 := gi_3 hk hL
  have gi4 := gi_4 hk hL
  exact ⟨h2, by simp +decide only [b243_26_c21, b243_759, b243_768, b243_778, S.n, S.k, S1.n, S1.k, kx_0, kx_211, eL, eL1, ex, gi0, gi1, gi2, gi3, gi4, hx, e1, e2q, Option.bind_some, Option.toList_some, Option.toList_none, List.cons_append, List.nil_append, ↓reduceIte], R9⟩
theorem lw_22 (R : R3 L h) {k : Nat} (hk : k + 5 ≤ L) (hL : L ≤ 2560) (hx : zh_x h (nI k).toNatClampNeg &&& 31 = 22) : LW L k h := by
  have al : Al2 L h (zv 3 127 0 [.ref 0, .int (zh_x h (nI k + 1).toNatClampNeg), .int (zh_x h (nI k + 2).toNatClampNeg), .int (zh_x h (nI k + 3).toNatClampNeg)] [] h) (fun m => zv 3 235 0 [.ref 211, .int (zh_x h (nI k + 1).toNatClampNeg), .int (zh_x h (nI k + 2).toNatClampNeg), .int (zh_x h (nI k + 3).toNatClampNeg), .double 0] [] m) := (a_sheet R _ _ _).al2
  obtain ⟨v, v2, h1, h2, e1, S1, eL1, ex, e2, R9⟩ := al
  have e2q : zv 3 235 0 [.ref 211, .int (zh_x h (nI k + 1).toNatClampNeg), .int (zh_x h (nI k + 2).toNatClampNeg), .int (zh_x h (nI k + 3).toNatClampNeg), .double 0] [] h1 = some (some (.int v2), h2) := e2
  have S := R.1.1
  have eL : zh_L h = L := R.2.2.2.2
  have gi0 := gi_0 hk hL
  have gi1 := gi_1 hk hL
  have gi2 := gi_2 hk hL
  have gi3 := gi_3 hk hL
  have gi4 := gi_4 hk hL
  exact ⟨h2, by simp +decide only [b243_26_c22, b243_782, b243_801, b243_821, S.n, S.k, S1.n, S1.k, kx_0, kx_211, eL, eL1, ex, gi0, gi1, gi2, gi3, gi4, hx, e1, e2q, Option.bind_some, Option.toList_some, Option.toList_none, List.cons_append, List.nil_append, ↓reduceIte], R9⟩
theorem lw_23 (R : R3 L h) {k : Nat} (hk : k + 5 ≤ L) (hL : L ≤ 2560) (hx : zh_x h (nI k).toNatClampNeg &&& 31 = 23) : LW L k h := by
  have al : Al2 L h (zv 3 128 0 [.ref 0, .int (zh_x h (nI k + 1).toNatClampNeg), .int (zh_x h (nI k + 2).toNatClampNeg), .int (zh_x h (nI k + 3).toNatClampNeg), .double 0] [] h) (fun m => zv 3 236 0 [.ref 211, .int (zh_x h (nI k + 1).toNatClampNeg), .int (zh_x h (nI k + 2).toNatClampNeg), .int (zh_x h (nI k + 3).toNatClampNeg)] [] m) := (a_lay R _ _ _).al2
  obtain ⟨v, v2, h1, h2, e1, S1, eL1, ex, e2, R9⟩ := al
  have e2q : zv 3 236 0 [.ref 211, .int (zh_x h (nI k + 1).toNatClampNeg), .int (zh_x h (nI k + 2).toNatClampNeg), .int (zh_x h (nI k + 3).toNatClampNeg)] [] h1 = some (some (.int v2), h2) := e2
  have S := R.1.1
  have eL : zh_L h = L := R.2.2.2.2
  have gi0 := gi_0 hk hL
  have gi1 := gi_1 hk hL
  have gi2 := gi_2 hk hL
  have gi3 := gi_3 hk hL
  have gi4 := gi_4 hk hL
  exact ⟨h2, by simp +decide only [b243_26_c23, b243_825, b243_844, b243_864, S.n, S.k, S1.n, S1.k, kx_0, kx_211, eL, eL1, ex, gi0, gi1, gi2, gi3, gi4, hx, e1, e2q, Option.bind_some, Option.toList_some, Option.toList_none, List.cons_append, List.nil_append, ↓reduceIte], R9⟩
theorem lw_24 (R : R3 L h) {k : Nat} (hk : k + 5 ≤ L) (hL : L ≤ 2560) (hx : zh_x h (nI k).toNatClampNeg &&& 31 = 24) : LW L k h := by
  have al : Al2 L h (zv 8 129 0 [.ref 0, .int (zh_x h (nI k + 1).toNatClampNeg), .int (zh_x h (nI k + 2).toNatClampNeg), .int (zh_x h (nI k + 3).toNatClampNeg), .int (zh_x h (nI k + 4).toNatClampNeg), .double 0, .double 0] [] h) (fun m => zv 8 237 0 [.ref 211, .int (zh_x h (nI k + 1).toNatClampNeg), .int (zh_x h (nI k + 2).toNatClampNeg), .int (zh_x h (nI k + 3).toNatClampNeg), .int (zh_x h (nI k + 4).toNatClampNeg), .double 0, .double 0, .double 0, .double 0, .double 0, .double 0] [] m) := (a_read R _ _ _ _).al2
  obtain ⟨v, v2, h1, h2, e1, S1, eL1, ex, e2, R9⟩ := al
  have e2q : zv 8 237 0 [.ref 211, .int (zh_x h (nI k + 1).toNatClampNeg), .int (zh_x h (nI k + 2).toNatClampNeg), .int (zh_x h (nI k + 3).toNatClampNeg), .int (zh_x h (nI k + 4).toNatClampNeg), .double 0, .double 0, .double 0, .double 0, .double 0, .double 0] [] h1 = some (some (.int v2), h2) := e2
  have S := R.1.1
  have eL : zh_L h = L := R.2.2.2.2
  have gi0 := gi_0 hk hL
  have gi1 := gi_1 hk hL
  have gi2 := gi_2 hk hL
  have gi3 := gi_3 hk hL
  have gi4 := gi_4 hk hL
  exact ⟨h2, by simp +decide only [b243_26_c24, b243_868, b243_892, b243_917, S.n, S.k, S1.n, S1.k, kx_0, kx_211, eL, eL1, ex, gi0, gi1, gi2, gi3, gi4, hx, e1, e2q, Option.bind_some, Option.toList_some, Option.toList_none, List.cons_append, List.nil_append, ↓reduceIte], R9⟩
theorem lw_25 (R : R3 L h) {k : Nat} (hk : k + 5 ≤ L) (hL : L ≤ 2560) (hx : zh_x h (nI k).toNatClampNeg &&& 31 = 25) : LW L k h := by
  have al : Al2 L h (zv 1 130 0 [.ref 0] [] h) (fun m => zv 1 238 0 [.ref 211] [] m) := (a_torn R).al2
  obtain ⟨v, v2, h1, h2, e1, S1, eL1, ex, e2, R9⟩ := al
  have e2q : zv 1 238 0 [.ref 211] [] h1 = some (some (.int v2), h2) := e2
  have S := R.1.1
  have eL : zh_L h = L := R.2.2.2.2
  have gi0 := gi_0 hk hL
  have gi1 := gi_1 hk hL
  have gi2 := gi_2 hk hL
  have gi3 := gi_3 hk hL
  have gi4 := gi_4 hk hL
  exact ⟨h2, by simp +decide only [b243_26_c25, b243_921, b243_925, b243_930, S.n, S.k, S1.n, S1.k, kx_0, kx_211, eL, eL1, ex, gi0, gi1, gi2, gi3, gi4, hx, e1, e2q, Option.bind_some, Option.toList_some, Option.toList_none, List.cons_append, List.nil_append, ↓reduceIte], R9⟩
theorem lw_26 (R : R3 L h) {k : Nat} (hk : k + 5 ≤ L) (hL : L ≤ 2560) (hx : zh_x h (nI k).toNatClampNeg &&& 31 = 26) : LW L k h := by
  have al : Al2 L h (zv 4 131 0 [.ref 0, .int (zh_x h (nI k + 1).toNatClampNeg)] [] h) (fun m => zv 3 240 0 [.ref 211, .int (zh_x h (nI k + 1).toNatClampNeg)] [] m) := a_count R _
  obtain ⟨v, v2, h1, h2, e1, S1, eL1, ex, e2, R9⟩ := al
  have e2q : zv 3 240 0 [.ref 211, .int (zh_x h (nI k + 1).toNatClampNeg)] [] h1 = some (some (.int v2), h2) := e2
  have S := R.1.1
  have eL : zh_L h = L := R.2.2.2.2
  have gi0 := gi_0 hk hL
  have gi1 := gi_1 hk hL
  have gi2 := gi_2 hk hL
  have gi3 := gi_3 hk hL
  have gi4 := gi_4 hk hL
  exact ⟨h2, by simp +decide only [b243_26_c26, b243_934, b243_943, b243_953, S.n, S.k, S1.n, S1.k, kx_0, kx_211, eL, eL1, ex, gi0, gi1, gi2, gi3, gi4, hx, e1, e2q, Option.bind_some, Option.toList_some, Option.toList_none, List.cons_append, List.nil_append, ↓reduceIte], R9⟩
theorem lw_d (R : R3 L h) {k : Nat} (hk : k + 5 ≤ L) (hL : L ≤ 2560) (hx : (zh_x h (nI k).toNatClampNeg &&& 31).toInt < 0 ∨ 26 < (zh_x h (nI k).toNatClampNeg &&& 31).toInt) : LW L k h := by
  have eL : zh_L h = L := R.2.2.2.2
  exact ⟨h, by rw [b243_26_d (by rw [eL]; exact gi_0 hk hL) hx], R⟩
theorem fn_26 {x : Int32} (h : ¬ (x.toInt < 0 ∨ 26 < x.toInt)) : ∃ j, j ≤ 26 ∧ x = nI j := by
  refine ⟨x.toInt.toNat, by omega, ?_⟩
  apply Int32.toInt_inj.mp
  rw [nI_toInt (by omega)]
  omega
theorem lw_any (R : R3 L h) {k : Nat} (hk : k + 5 ≤ L) (hL : L ≤ 2560) : LW L k h := by
  by_cases hd : (zh_x h (nI k).toNatClampNeg &&& 31).toInt < 0 ∨ 26 < (zh_x h (nI k).toNatClampNeg &&& 31).toInt
  · exact lw_d R hk hL hd
  · obtain ⟨j, hj, e⟩ := fn_26 hd
    have : j = 0 ∨ j = 1 ∨ j = 2 ∨ j = 3 ∨ j = 4 ∨ j = 5 ∨ j = 6 ∨ j = 7 ∨ j = 8 ∨ j = 9 ∨ j = 10 ∨ j = 11 ∨ j = 12 ∨ j = 13 ∨ j = 14 ∨ j = 15 ∨ j = 16 ∨ j = 17 ∨ j = 18 ∨ j = 19 ∨ j = 20 ∨ j = 21 ∨ j = 22 ∨ j = 23 ∨ j = 24 ∨ j = 25 ∨ j = 26 := by omega
    rcases this with rfl | rfl | rfl | rfl | rfl | rfl | rfl | rfl | rfl | rfl | rfl | rfl | rfl | rfl | rfl | rfl | rfl | rfl | rfl | rfl | rfl | rfl | rfl | rfl | rfl | rfl | rfl
    · exact lw_0 R hk hL e
    · exact lw_1 R hk hL e
    · exact lw_2 R hk hL e
    · exact lw_3 R hk hL e
    · exact lw_4 R hk hL e
    · exact lw_5 R hk hL e
    · exact lw_6 R hk hL e
    · exact lw_7 R hk hL e
    · exact lw_8 R hk hL e
    · exact lw_9 R hk hL e
    · exact lw_10 R hk hL e
    · exact lw_11 R hk hL e
    · exact lw_12 R hk hL e
    · exact lw_13 R hk hL e
    · exact lw_14 R hk hL e
    · exact lw_15 R hk hL e
    · exact lw_16 R hk hL e
    · exact lw_17 R hk hL e
    · exact lw_18 R hk hL e
    · exact lw_19 R hk hL e
    · exact lw_20 R hk hL e
    · exact lw_21 R hk hL e
    · exact lw_22 R hk hL e
    · exact lw_23 R hk hL e
    · exact lw_24 R hk hL e
    · exact lw_25 R hk hL e
    · exact lw_26 R hk hL e
/-- the loop -/
theorem law_lp (hL : L ≤ 2560) : ∀ d k, k + d = L + 5 → ∀ {h : zi_Hp}, R3 L h → 5 ≤ L → ∃ hF, zv 18 243 18 [.retAddr 0, .ref 0, .ref 211, .int (nI k)] [] h = some (some (.int 1), hF) ∧ Sh hF := by
  intro d
  induction d using Nat.strongRecOn with
  | ind d ih =>
    intro k hk h R h5
    have eL : zh_L h = L := R.2.2.2.2
    have e5 : Int32.ofNat L - 5 = nI (L - 5) := nI_sub (a := L) (b := 5) h5
    rw [b243_18, eL, e5]
    by_cases q : nI (L - 5) < nI k
    · exact ⟨h, by rw [if_pos q, b243_963], R.1.1⟩
    · have hkL : k + 5 ≤ L := by
        rw [nI_ltI (by omega) (by omega)] at q; omega
      obtain ⟨h', e, R'⟩ := lw_any R hkL hL
      rw [if_neg q, e, b243_957, show nI k + 5 = nI (k + 5) from nI_add k 5]
      exact ih (d - 5) (by omega) (k + 5) (by omega) R' h5
theorem law_sh (hL : L < 5) (eL : zh_L h = L) : zv 18 243 18 [.retAddr 0, .ref 0, .ref 211, .int 0] [] h = some (some (.int 1), h) := by
  have q : Int32.ofNat L - 5 < 0 := by
    have : L = 0 ∨ L = 1 ∨ L = 2 ∨ L = 3 ∨ L = 4 := by omega
    rcases this with rfl | rfl | rfl | rfl | rfl <;> decide
  rw [b243_18, eL, if_pos q, b243_963]
theorem zF_R3 {xs : Nat → Int32} : R3 L (zF L xs) := by
  refine ⟨⟨zF_Sh, ?_, ⟨⟨0, by decide, rfl⟩, fun k hk hb => ?_, fun k hk => ?_⟩⟩, ⟨zF_Sh, fun W V => ?_⟩, ?_, ⟨fun k hk => ?_, rfl, fun t ht et j hj => ?_, fun k hk => ?_, fun k hk i hi => ?_, rfl⟩, rfl⟩
  · refine fs_inv (v := 3) (by decide) (by decide) (fun j hj => ?_)
    rw [zF_i, ix_212]; rfl
  · have : k = 0 ∨ k = 1 := by omega
    rcases this with rfl | rfl
    · rw [show zh_b (zF L xs) 214 0 = false from rfl] at hb; exact absurd hb (by decide)
    · rw [show zh_b (zF L xs) 214 1 = false from rfl] at hb; exact absurd hb (by decide)
  · have : k = 0 ∨ k = 1 ∨ k = 2 ∨ k = 3 := by omega
    rcases this with rfl | rfl | rfl | rfl <;> exact ⟨0, by decide, rfl⟩
  · unfold Wa at V
    rcases V with rfl | rfl | rfl | rfl | rfl | rfl | rfl | rfl | rfl | rfl | rfl | rfl
    all_goals
      refine Gw.fresh (v := 3) (by decide) (by decide) rfl rfl rfl rfl rfl rfl rfl rfl (fun c hc => ?_)
      have : c = 0 ∨ c = 1 ∨ c = 2 := by omega
      rcases this with rfl | rfl | rfl <;> rfl
  · refine (Gs.fresh (v := 3) (by decide) (by decide) rfl rfl rfl rfl rfl rfl rfl rfl (fun c hc => ?_)).congr (fun j hj => ?_)
    · have : c = 0 ∨ c = 1 ∨ c = 2 := by omega
      rcases this with rfl | rfl | rfl <;> rfl
    · rw [zF_i, ix_212]; rfl
  · have : k = 0 ∨ k = 1 := by omega
    rcases this with rfl | rfl
    · exact ⟨rfl, fun hb => by rw [show zh_b (zF L xs) 214 0 = false from rfl] at hb; exact absurd hb (by decide)⟩
    · exact ⟨rfl, fun hb => by rw [show zh_b (zF L xs) 214 1 = false from rfl] at hb; exact absurd hb (by decide)⟩
  · have e0 : nI 0 = nI t := et
    have := (nI_eq' (a := 0) (b := t) (by decide) (by omega)).mp e0
    omega
  · have : k = 0 ∨ k = 1 ∨ k = 2 ∨ k = 3 := by omega
    rcases this with rfl | rfl | rfl | rfl <;> exact Or.inl ⟨rfl, rfl⟩
  · have : k = 0 ∨ k = 1 ∨ k = 2 ∨ k = 3 := by omega
    rcases this with rfl | rfl | rfl | rfl <;> rfl
theorem law_all {xs : Nat → Int32} (hL : L ≤ 2560) : ∃ hF, zv 18 243 0 [.retAddr 0, .double 0, .double 0, .double 0] [] (zi_h0 L xs) = some (some (.int 1), hF) ∧ Sh hF := by
  rw [ct243]
  by_cases h5 : 5 ≤ L
  · exact law_lp hL (L + 5) 0 (Nat.zero_add _) zF_R3 h5
  · exact ⟨_, law_sh (L := L) (by omega) rfl, zF_Sh⟩
end R35
