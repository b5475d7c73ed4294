/-! THE CLASS'S WORLD: more reads -/
section R32H
variable {h : zi_Hp} {W : Nat} {x : Nat → Nat → Int32} {y : Nat → Nat → Bool} {c n : Nat}
theorem nI_ex {x : Int32} {b : Nat} (hb : b < 1000) (h0 : ¬ x < 0) (h1 : x < nI b) : ∃ n, n < b ∧ x = nI n := by
  have eb : (nI b).toInt = b := nI_toInt (by omega)
  rw [Int32.lt_iff_toInt_lt] at h0 h1
  have e0 : (0 : Int32).toInt = 0 := rfl
  rw [eb] at h1
  rw [e0] at h0
  refine ⟨x.toInt.toNat, by omega, ?_⟩
  apply Int32.toInt_inj.mp
  rw [nI_toInt (by omega)]
  omega
theorem nI_ex' {x : Int32} {b : Nat} (hb : b < 1000) (h0 : ¬ x < 0) (h1 : ¬ nI b < x) : ∃ n, n ≤ b ∧ x = nI n := by
  have eb : (nI b).toInt = b := nI_toInt (by omega)
  rw [Int32.lt_iff_toInt_lt] at h0 h1
  have e0 : (0 : Int32).toInt = 0 := rfl
  rw [eb] at h1
  rw [e0] at h0
  refine ⟨x.toInt.toNat, by omega, ?_⟩
  apply Int32.toInt_inj.mp
  rw [nI_toInt (by omega)]
  omega
theorem out_or {x : Int32} {a b : Nat} (hb : b < 1000) (hab : a ≤ b) (hx : ¬ (nI a ≤ x ∧ x ≤ nI b)) : x.toInt < a ∨ b < x.toInt := by
  have ea : (nI a).toInt = a := nI_toInt (by omega)
  have eb : (nI b).toInt = b := nI_toInt (by omega)
  rw [Int32.le_iff_toInt_le, Int32.le_iff_toInt_le, ea, eb] at hx
  omega
theorem p_133 {x : Int32} : zv 1 133 0 [.int x] [] h = some (some (.int (zi_bI (decide (¬ x < 0 ∧ x < 3)))), h) := by
  rw [b133_0]
  by_cases h0 : x < 0
  · rw [if_pos h0, b133_13, b133_14 (Or.inl rfl), decide_eq_false (fun q => q.1 h0)]; rfl
  · rw [if_neg h0, b133_4]
    by_cases h1 : x < 3
    · rw [if_pos h1, b133_9, b133_14 (Or.inr rfl), decide_eq_true ⟨h0, h1⟩]; rfl
    · rw [if_neg h1, b133_13, b133_14 (Or.inl rfl), decide_eq_false (fun q => h1 q.2)]; rfl
theorem p_134 {x : Int32} : zv 1 134 0 [.int x] [] h = some (some (.int (zi_bI (decide (¬ x < 0 ∧ x < 100)))), h) := by
  rw [b134_0]
  by_cases h0 : x < 0
  · rw [if_pos h0, b134_14, b134_15 (Or.inl rfl), decide_eq_false (fun q => q.1 h0)]; rfl
  · rw [if_neg h0, b134_4]
    by_cases h1 : x < 100
    · rw [if_pos h1, b134_10, b134_15 (Or.inr rfl), decide_eq_true ⟨h0, h1⟩]; rfl
    · rw [if_neg h1, b134_14, b134_15 (Or.inl rfl), decide_eq_false (fun q => h1 q.2)]; rfl
theorem p_135 {x : Int32} : zv 1 135 0 [.int x] [] h = some (some (.int (zi_bI (decide (¬ x < 0 ∧ ¬ 7 < x)))), h) := by
  rw [b135_0]
  by_cases h0 : x < 0
  · rw [if_pos h0, b135_14, b135_15 (Or.inl rfl), decide_eq_false (fun q => q.1 h0)]; rfl
  · rw [if_neg h0, b135_4]
    by_cases h1 : 7 < x
    · rw [if_pos h1, b135_14, b135_15 (Or.inl rfl), decide_eq_false (fun q => q.2 h1)]; rfl
    · rw [if_neg h1, b135_10, b135_15 (Or.inr rfl), decide_eq_true ⟨h0, h1⟩]; rfl
theorem p_136 {x : Int32} : zv 1 136 0 [.int x] [] h = some (some (.int (zi_bI (decide (x = 0 ∨ x = 1)))), h) := by
  rw [b136_0]
  by_cases h0 : x = 0
  · rw [if_pos h0, b136_9, b136_14 (Or.inr rfl), decide_eq_true (Or.inl h0)]; rfl
  · rw [if_neg h0, b136_4]
    by_cases h1 : x = 1
    · rw [if_pos h1, b136_9, b136_14 (Or.inr rfl), decide_eq_true (Or.inr h1)]; rfl
    · rw [if_neg h1, b136_13, b136_14 (Or.inl rfl), decide_eq_false (fun q => q.elim h0 h1)]; rfl
theorem p_137 {x : Int32} : zv 1 137 0 [.int x] [] h = some (some (.int (zi_bI (decide (¬ x < 0 ∧ x < 2)))), h) := by
  rw [b137_0]
  by_cases h0 : x < 0
  · rw [if_pos h0, b137_13, b137_14 (Or.inl rfl), decide_eq_false (fun q => q.1 h0)]; rfl
  · rw [if_neg h0, b137_4]
    by_cases h1 : x < 2
    · rw [if_pos h1, b137_9, b137_14 (Or.inr rfl), decide_eq_true ⟨h0, h1⟩]; rfl
    · rw [if_neg h1, b137_13, b137_14 (Or.inl rfl), decide_eq_false (fun q => h1 q.2)]; rfl
theorem p_138 {x : Int32} : zv 1 138 0 [.int x] [] h = some (some (.int (zi_bI (decide (¬ x < 0 ∧ x < 4)))), h) := by
  rw [b138_0]
  by_cases h0 : x < 0
  · rw [if_pos h0, b138_13, b138_14 (Or.inl rfl), decide_eq_false (fun q => q.1 h0)]; rfl
  · rw [if_neg h0, b138_4]
    by_cases h1 : x < 4
    · rw [if_pos h1, b138_9, b138_14 (Or.inr rfl), decide_eq_true ⟨h0, h1⟩]; rfl
    · rw [if_neg h1, b138_13, b138_14 (Or.inl rfl), decide_eq_false (fun q => h1 q.2)]; rfl
theorem p_139 {x : Int32} : zv 1 139 0 [.int x] [] h = some (some (.int (zi_bI (decide (¬ x < 0 ∧ x < 3)))), h) := by
  rw [b139_0]
  by_cases h0 : x < 0
  · rw [if_pos h0, b139_13, b139_14 (Or.inl rfl), decide_eq_false (fun q => q.1 h0)]; rfl
  · rw [if_neg h0, b139_4]
    by_cases h1 : x < 3
    · rw [if_pos h1, b139_9, b139_14 (Or.inr rfl), decide_eq_true ⟨h0, h1⟩]; rfl
    · rw [if_neg h1, b139_13, b139_14 (Or.inl rfl), decide_eq_false (fun q => h1 q.2)]; rfl
theorem k_tw (S : Sh h) (V : Wa W) {u1 u2 : Value} : ∃ b : Bool, zv 3 99 0 [.ref W, u1, u2] [] (zC h W x y) = some (some (.int (zi_bI b)), zC h W x y) := by
  have key : ∀ d c (v : Value), c + d = 3 → ∃ b : Bool, zv 3 99 2 [.ref W, .int (nI c), v] [] (zC h W x y) = some (some (.int (zi_bI b)), zC h W x y) := by
    intro d
    induction d with
    | zero =>
      intro c v hd
      have e : c = 3 := by omega
      subst e
      exact ⟨false, by rw [b99_2, if_neg (by decide), b99_47]; rfl⟩
    | succ d ih =>
      intro c v hd
      have hc : c < 3 := by omega
      have nc : (nI c).toNatClampNeg = c := nI_clamp (by omega)
      have hzc : ¬ (nI c < 0 ∨ 3 ≤ c) := by have q := zj_n (N := 3) hc (by decide); rw [nc] at q; exact q
      have nx : ∀ {v : Int32}, ∃ b : Bool, zv 3 99 41 [.ref W, .int (nI c), .int v] [] (zC h W x y) = some (some (.int (zi_bI b)), zC h W x y) := fun {v} => by
        rw [b99_41, nI_s]; exact ih (c + 1) _ (by omega)
      obtain ⟨bb, kk⟩ : ∃ bb : Bool, zv 1 5 0 [.ref (W + (10 + 2 * c)), .int (x (10 + 2 * c) 3)] [] (zC h W x y) = some (some (.int (zi_bI bb)), zC h W x y) := ⟨_, k_ho S V hc⟩
      rw [b99_2, if_pos (show nI c < 3 from nI_lt (b := 3) hc (by decide)), b99_7 (by first | (simp +decide only [zC_n, zC_k, zC_r, S.n, wk_0 S V, wk_1 S V, wr_0_0 S V, wr_0_1 S V, wk_9 S V, nc, cl_k S V hc, cl_r S V hc, cl_p S V hc, cl_q S V hc, zq_rf, hzc]; done) | (simp only [zC_n, zC_r, S.n, wr_0_0 S V, wr_0_1 S V, nc, cl_r S V hc, cl_p S V hc, zq_rf]; have := V.lt; omega)) (by first | (simp +decide only [zC_n, zC_k, zC_r, S.n, wk_0 S V, wk_1 S V, wr_0_0 S V, wr_0_1 S V, wk_9 S V, nc, cl_k S V hc, cl_r S V hc, cl_p S V hc, cl_q S V hc, zq_rf, hzc]; done) | (simp only [zC_n, zC_r, S.n, wr_0_0 S V, wr_0_1 S V, nc, cl_r S V hc, cl_p S V hc, zq_rf]; have := V.lt; omega)) (by first | (simp +decide only [zC_n, zC_k, zC_r, S.n, wk_0 S V, wk_1 S V, wr_0_0 S V, wr_0_1 S V, wk_9 S V, nc, cl_k S V hc, cl_r S V hc, cl_p S V hc, cl_q S V hc, zq_rf, hzc]; done) | (simp only [zC_n, zC_r, S.n, wr_0_0 S V, wr_0_1 S V, nc, cl_r S V hc, cl_p S V hc, zq_rf]; have := V.lt; omega)) (by first | (simp +decide only [zC_n, zC_k, zC_r, S.n, wk_0 S V, wk_1 S V, wr_0_0 S V, wr_0_1 S V, wk_9 S V, nc, cl_k S V hc, cl_r S V hc, cl_p S V hc, cl_q S V hc, zq_rf, hzc]; done) | (simp only [zC_n, zC_r, S.n, wr_0_0 S V, wr_0_1 S V, nc, cl_r S V hc, cl_p S V hc, zq_rf]; have := V.lt; omega)) (by first | (simp +decide only [zC_n, zC_k, zC_r, S.n, wk_0 S V, wk_1 S V, wr_0_0 S V, wr_0_1 S V, wk_9 S V, nc, cl_k S V hc, cl_r S V hc, cl_p S V hc, cl_q S V hc, zq_rf, hzc]; done) | (simp only [zC_n, zC_r, S.n, wr_0_0 S V, wr_0_1 S V, nc, cl_r S V hc, cl_p S V hc, zq_rf]; have := V.lt; omega)) (by first | (simp +decide only [zC_n, zC_k, zC_r, S.n, wk_0 S V, wk_1 S V, wr_0_0 S V, wr_0_1 S V, wk_9 S V, nc, cl_k S V hc, cl_r S V hc, cl_p S V hc, cl_q S V hc, zq_rf, hzc]; done) | (simp only [zC_n, zC_r, S.n, wr_0_0 S V, wr_0_1 S V, nc, cl_r S V hc, cl_p S V hc, zq_rf]; have := V.lt; omega)) (by first | (simp +decide only [zC_n, zC_k, zC_r, S.n, wk_0 S V, wk_1 S V, wr_0_0 S V, wr_0_1 S V, wk_9 S V, nc, cl_k S V hc, cl_r S V hc, cl_p S V hc, cl_q S V hc, zq_rf, hzc]; done) | (simp only [zC_n, zC_r, S.n, wr_0_0 S V, wr_0_1 S V, nc, cl_r S V hc, cl_p S V hc, zq_rf]; have := V.lt; omega)) (by first | (simp +decide only [zC_n, zC_k, zC_r, S.n, wk_0 S V, wk_1 S V, wr_0_0 S V, wr_0_1 S V, wk_9 S V, nc, cl_k S V hc, cl_r S V hc, cl_p S V hc, cl_q S V hc, zq_rf, hzc]; done) | (simp only [zC_n, zC_r, S.n, wr_0_0 S V, wr_0_1 S V, nc, cl_r S V hc, cl_p S V hc, zq_rf]; have := V.lt; omega)) (by first | (simp +decide only [zC_n, zC_k, zC_r, S.n, wk_0 S V, wk_1 S V, wr_0_0 S V, wr_0_1 S V, wk_9 S V, nc, cl_k S V hc, cl_r S V hc, cl_p S V hc, cl_q S V hc, zq_rf, hzc]; done) | (simp only [zC_n, zC_r, S.n, wr_0_0 S V, wr_0_1 S V, nc, cl_r S V hc, cl_p S V hc, zq_rf]; have := V.lt; omega)), zC_r, zC_r, wr_0_1 S V, zq_rf, nc, cl_r S V hc, zq_rf, zC_i (by omega), kk]
      simp only [Option.bind_some, Option.toList_some, Option.toList_none, List.cons_append, List.nil_append]
      rw [b99_27]
      cases bb with
      | false => rw [zi_bI_f, if_pos rfl]; exact nx
      | true =>
        rw [zi_bI_t, if_neg (by decide), b99_30 (by first | (simp only [zC_n, zC_k, zC_r, S.n, wk_0 S V, wk_1 S V, wr_0_0 S V, wr_0_1 S V, wk_9 S V, cl_k S V hc, cl_r S V hc, cl_p S V hc, cl_q S V hc, zq_rf]; done) | (simp only [zC_n, zC_r, S.n, wr_0_0 S V, wr_0_1 S V, cl_r S V hc, cl_p S V hc, zq_rf]; have := V.lt; omega)) (by first | (simp only [zC_n, zC_k, zC_r, S.n, wk_0 S V, wk_1 S V, wr_0_0 S V, wr_0_1 S V, wk_9 S V, cl_k S V hc, cl_r S V hc, cl_p S V hc, cl_q S V hc, zq_rf]; done) | (simp only [zC_n, zC_r, S.n, wr_0_0 S V, wr_0_1 S V, cl_r S V hc, cl_p S V hc, zq_rf]; have := V.lt; omega)), k_hd S V]
        simp only [Option.bind_some, Option.toList_some, Option.toList_none, List.cons_append, List.nil_append]
        rw [b99_35]
        by_cases q : hoK x (x (10 + 2 * c) 3) = nI c
        · rw [if_pos q]; exact nx
        · rw [if_neg q, b99_39]; exact ⟨true, rfl⟩
  rw [b99_0]
  exact key 3 0 _ rfl
theorem k_ar (S : Sh h) (V : Wa W) {u1 u2 : Value} : zv 1 100 0 [.ref W, u1, u2] [] (zC h W x y) = some (some (.int (itF (fun c a => a + x (10 + 2 * c) 7) 3 0 0)), zC h W x y) := by
  rw [b100_0]
  refine lpF (F := fun a c => zv 1 100 4 [.ref W, .int a, .int c] [] (zC h W x y)) (E := fun a => some (some (.int a), zC h W x y)) (g := fun c a => a + x (10 + 2 * c) 7) (N := 3) (fun c a hc => ?_) (fun a => ?_) 3 0 0 (Nat.zero_add _)
  · have nc : (nI c).toNatClampNeg = c := nI_clamp (by omega)
    have hzc : ¬ (nI c < 0 ∨ 3 ≤ c) := by have q := zj_n (N := 3) hc (by decide); rw [nc] at q; exact q
    try dsimp only
    rw [b100_4, if_pos (show nI c < 3 from nI_lt (b := 3) hc (by decide)), b100_9 (by first | (simp +decide only [zC_n, zC_k, zC_r, S.n, wk_0 S V, wk_1 S V, wr_0_0 S V, wr_0_1 S V, wk_9 S V, nc, cl_k S V hc, cl_r S V hc, cl_p S V hc, cl_q S V hc, zq_rf, hzc]; done) | (simp only [zC_n, zC_r, S.n, wr_0_0 S V, wr_0_1 S V, nc, cl_r S V hc, cl_p S V hc, zq_rf]; have := V.lt; omega)) (by first | (simp +decide only [zC_n, zC_k, zC_r, S.n, wk_0 S V, wk_1 S V, wr_0_0 S V, wr_0_1 S V, wk_9 S V, nc, cl_k S V hc, cl_r S V hc, cl_p S V hc, cl_q S V hc, zq_rf, hzc]; done) | (simp only [zC_n, zC_r, S.n, wr_0_0 S V, wr_0_1 S V, nc, cl_r S V hc, cl_p S V hc, zq_rf]; have := V.lt; omega)) (by first | (simp +decide only [zC_n, zC_k, zC_r, S.n, wk_0 S V, wk_1 S V, wr_0_0 S V, wr_0_1 S V, wk_9 S V, nc, cl_k S V hc, cl_r S V hc, cl_p S V hc, cl_q S V hc, zq_rf, hzc]; done) | (simp only [zC_n, zC_r, S.n, wr_0_0 S V, wr_0_1 S V, nc, cl_r S V hc, cl_p S V hc, zq_rf]; have := V.lt; omega)) (by first | (simp +decide only [zC_n, zC_k, zC_r, S.n, wk_0 S V, wk_1 S V, wr_0_0 S V, wr_0_1 S V, wk_9 S V, nc, cl_k S V hc, cl_r S V hc, cl_p S V hc, cl_q S V hc, zq_rf, hzc]; done) | (simp only [zC_n, zC_r, S.n, wr_0_0 S V, wr_0_1 S V, nc, cl_r S V hc, cl_p S V hc, zq_rf]; have := V.lt; omega)) (by first | (simp +decide only [zC_n, zC_k, zC_r, S.n, wk_0 S V, wk_1 S V, wr_0_0 S V, wr_0_1 S V, wk_9 S V, nc, cl_k S V hc, cl_r S V hc, cl_p S V hc, cl_q S V hc, zq_rf, hzc]; done) | (simp only [zC_n, zC_r, S.n, wr_0_0 S V, wr_0_1 S V, nc, cl_r S V hc, cl_p S V hc, zq_rf]; have := V.lt; omega)) (by first | (simp +decide only [zC_n, zC_k, zC_r, S.n, wk_0 S V, wk_1 S V, wr_0_0 S V, wr_0_1 S V, wk_9 S V, nc, cl_k S V hc, cl_r S V hc, cl_p S V hc, cl_q S V hc, zq_rf, hzc]; done) | (simp only [zC_n, zC_r, S.n, wr_0_0 S V, wr_0_1 S V, nc, cl_r S V hc, cl_p S V hc, zq_rf]; have := V.lt; omega)) (by first | (simp +decide only [zC_n, zC_k, zC_r, S.n, wk_0 S V, wk_1 S V, wr_0_0 S V, wr_0_1 S V, wk_9 S V, nc, cl_k S V hc, cl_r S V hc, cl_p S V hc, cl_q S V hc, zq_rf, hzc]; done) | (simp only [zC_n, zC_r, S.n, wr_0_0 S V, wr_0_1 S V, nc, cl_r S V hc, cl_p S V hc, zq_rf]; have := V.lt; omega)) (by first | (simp +decide only [zC_n, zC_k, zC_r, S.n, wk_0 S V, wk_1 S V, wr_0_0 S V, wr_0_1 S V, wk_9 S V, nc, cl_k S V hc, cl_r S V hc, cl_p S V hc, cl_q S V hc, zq_rf, hzc]; done) | (simp only [zC_n, zC_r, S.n, wr_0_0 S V, wr_0_1 S V, nc, cl_r S V hc, cl_p S V hc, zq_rf]; have := V.lt; omega)) (by first | (simp +decide only [zC_n, zC_k, zC_r, S.n, wk_0 S V, wk_1 S V, wr_0_0 S V, wr_0_1 S V, wk_9 S V, nc, cl_k S V hc, cl_r S V hc, cl_p S V hc, cl_q S V hc, zq_rf, hzc]; done) | (simp only [zC_n, zC_r, S.n, wr_0_0 S V, wr_0_1 S V, nc, cl_r S V hc, cl_p S V hc, zq_rf]; have := V.lt; omega)), zC_r, zC_r, wr_0_1 S V, zq_rf, nc, cl_r S V hc, zq_rf, zC_i (by omega), nI_s]
  · try dsimp only
    rw [b100_4, if_neg (by decide), b100_27]
theorem k_dn (S : Sh h) (V : Wa W) {u1 : Value} : ∃ b : Bool, zv 2 101 0 [.ref W, u1] [] (zC h W x y) = some (some (.int (zi_bI b)), zC h W x y) ∧ (b = true ↔ ∀ c, 0 ≤ c → c < 3 → ¬ (¬ x (10 + 2 * c) 0 = 0 ∧ ¬ x (10 + 2 * c) 0 = 5)) := by
  rw [b101_0]
  refine lpE (α := Unit) 0 (F := fun _ c => zv 2 101 2 [.ref W, .int c] [] (zC h W x y)) (E := fun b => some (some (.int (zi_bI b)), zC h W x y)) (P := fun c => ¬ (¬ x (10 + 2 * c) 0 = 0 ∧ ¬ x (10 + 2 * c) 0 = 5)) (N := 3) (fun c _ hc _ => ?_) (fun _ => ?_) 3 0 () (Nat.le_refl _) rfl
  · have nc : (nI c).toNatClampNeg = c := nI_clamp (by omega)
    have hzc : ¬ (nI c < 0 ∨ 3 ≤ c) := by have q := zj_n (N := 3) hc (by decide); rw [nc] at q; exact q
    try dsimp only
    have go : zv 2 101 2 [.ref W, .int (nI c)] [] (zC h W x y) = if zi_bI (decide (¬ x (10 + 2 * c) 0 = 0 ∧ ¬ x (10 + 2 * c) 0 = 5)) = 0 then zv 2 101 21 [.ref W, .int (nI c)] [] (zC h W x y) else zv 2 101 19 [.ref W, .int (nI c)] [] (zC h W x y) := by
      rw [b101_2, if_pos (show nI c < 3 from nI_lt (b := 3) hc (by decide)), b101_7 (by first | (simp +decide only [zC_n, zC_k, zC_r, S.n, wk_0 S V, wk_1 S V, wr_0_0 S V, wr_0_1 S V, wk_9 S V, nc, cl_k S V hc, cl_r S V hc, cl_p S V hc, cl_q S V hc, zq_rf, hzc]; done) | (simp only [zC_n, zC_r, S.n, wr_0_0 S V, wr_0_1 S V, nc, cl_r S V hc, cl_p S V hc, zq_rf]; have := V.lt; omega)) (by first | (simp +decide only [zC_n, zC_k, zC_r, S.n, wk_0 S V, wk_1 S V, wr_0_0 S V, wr_0_1 S V, wk_9 S V, nc, cl_k S V hc, cl_r S V hc, cl_p S V hc, cl_q S V hc, zq_rf, hzc]; done) | (simp only [zC_n, zC_r, S.n, wr_0_0 S V, wr_0_1 S V, nc, cl_r S V hc, cl_p S V hc, zq_rf]; have := V.lt; omega)) (by first | (simp +decide only [zC_n, zC_k, zC_r, S.n, wk_0 S V, wk_1 S V, wr_0_0 S V, wr_0_1 S V, wk_9 S V, nc, cl_k S V hc, cl_r S V hc, cl_p S V hc, cl_q S V hc, zq_rf, hzc]; done) | (simp only [zC_n, zC_r, S.n, wr_0_0 S V, wr_0_1 S V, nc, cl_r S V hc, cl_p S V hc, zq_rf]; have := V.lt; omega)) (by first | (simp +decide only [zC_n, zC_k, zC_r, S.n, wk_0 S V, wk_1 S V, wr_0_0 S V, wr_0_1 S V, wk_9 S V, nc, cl_k S V hc, cl_r S V hc, cl_p S V hc, cl_q S V hc, zq_rf, hzc]; done) | (simp only [zC_n, zC_r, S.n, wr_0_0 S V, wr_0_1 S V, nc, cl_r S V hc, cl_p S V hc, zq_rf]; have := V.lt; omega)) (by first | (simp +decide only [zC_n, zC_k, zC_r, S.n, wk_0 S V, wk_1 S V, wr_0_0 S V, wr_0_1 S V, wk_9 S V, nc, cl_k S V hc, cl_r S V hc, cl_p S V hc, cl_q S V hc, zq_rf, hzc]; done) | (simp only [zC_n, zC_r, S.n, wr_0_0 S V, wr_0_1 S V, nc, cl_r S V hc, cl_p S V hc, zq_rf]; have := V.lt; omega)) (by first | (simp +decide only [zC_n, zC_k, zC_r, S.n, wk_0 S V, wk_1 S V, wr_0_0 S V, wr_0_1 S V, wk_9 S V, nc, cl_k S V hc, cl_r S V hc, cl_p S V hc, cl_q S V hc, zq_rf, hzc]; done) | (simp only [zC_n, zC_r, S.n, wr_0_0 S V, wr_0_1 S V, nc, cl_r S V hc, cl_p S V hc, zq_rf]; have := V.lt; omega)) (by first | (simp +decide only [zC_n, zC_k, zC_r, S.n, wk_0 S V, wk_1 S V, wr_0_0 S V, wr_0_1 S V, wk_9 S V, nc, cl_k S V hc, cl_r S V hc, cl_p S V hc, cl_q S V hc, zq_rf, hzc]; done) | (simp only [zC_n, zC_r, S.n, wr_0_0 S V, wr_0_1 S V, nc, cl_r S V hc, cl_p S V hc, zq_rf]; have := V.lt; omega)) (by first | (simp +decide only [zC_n, zC_k, zC_r, S.n, wk_0 S V, wk_1 S V, wr_0_0 S V, wr_0_1 S V, wk_9 S V, nc, cl_k S V hc, cl_r S V hc, cl_p S V hc, cl_q S V hc, zq_rf, hzc]; done) | (simp only [zC_n, zC_r, S.n, wr_0_0 S V, wr_0_1 S V, nc, cl_r S V hc, cl_p S V hc, zq_rf]; have := V.lt; omega)) (by first | (simp +decide only [zC_n, zC_k, zC_r, S.n, wk_0 S V, wk_1 S V, wr_0_0 S V, wr_0_1 S V, wk_9 S V, nc, cl_k S V hc, cl_r S V hc, cl_p S V hc, cl_q S V hc, zq_rf, hzc]; done) | (simp only [zC_n, zC_r, S.n, wr_0_0 S V, wr_0_1 S V, nc, cl_r S V hc, cl_p S V hc, zq_rf]; have := V.lt; omega)), zC_r, zC_r, wr_0_1 S V, zq_rf, nc, cl_r S V hc, zq_rf, k_uw S V hc]
      simp only [Option.bind_some, Option.toList_some, Option.toList_none, List.cons_append, List.nil_append]
      rw [b101_16]
    by_cases q : ¬ x (10 + 2 * c) 0 = 0 ∧ ¬ x (10 + 2 * c) 0 = 5
    · exact Or.inr ⟨fun w => w q, by rw [go, decide_eq_true q, zi_bI_t, if_neg (by decide), b101_19]; rfl⟩
    · exact Or.inl ⟨q, (), by rw [go, decide_eq_false q, zi_bI_f, if_pos rfl, b101_21, nI_s]⟩
  · try dsimp only
    rw [b101_2, if_neg (by decide), b101_27]; rfl
def unK (x : Nat → Nat → Int32) (c : Nat) : Bool := decide ((x (10 + 2 * c) 0 = 5 ∧ x (10 + 2 * c) 1 = 0) ∧ ((x (10 + 2 * c) 4 = 0 ∧ x (10 + 2 * c) 5 &&& 1 = 0) ∨ (x (10 + 2 * c) 4 = 1 ∧ x (10 + 2 * c) 5 &&& 2 = 0)))
theorem k_un (S : Sh h) (V : Wa W) (hc : c < 3) : zv 1 10 0 [.ref (W + (10 + 2 * c))] [] (zC h W x y) = some (some (.int (zi_bI (unK x c))), zC h W x y) := by
  unfold unK
  rw [b10_0 (by first | (simp only [zC_n, zC_k, zC_r, S.n, wk_0 S V, wk_1 S V, wr_0_0 S V, wr_0_1 S V, wk_9 S V, cl_k S V hc, cl_r S V hc, cl_p S V hc, cl_q S V hc, zq_rf]; done) | (simp only [zC_n, zC_r, S.n, wr_0_0 S V, wr_0_1 S V, cl_r S V hc, cl_p S V hc, zq_rf]; have := V.lt; omega)) (by first | (simp only [zC_n, zC_k, zC_r, S.n, wk_0 S V, wk_1 S V, wr_0_0 S V, wr_0_1 S V, wk_9 S V, cl_k S V hc, cl_r S V hc, cl_p S V hc, cl_q S V hc, zq_rf]; done) | (simp only [zC_n, zC_r, S.n, wr_0_0 S V, wr_0_1 S V, cl_r S V hc, cl_p S V hc, zq_rf]; have := V.lt; omega)), zC_i (by omega)]
  by_cases h5 : x (10 + 2 * c) 0 = 5
  · rw [if_pos h5, b10_8 (by first | (simp only [zC_n, zC_k, zC_r, S.n, wk_0 S V, wk_1 S V, wr_0_0 S V, wr_0_1 S V, wk_9 S V, cl_k S V hc, cl_r S V hc, cl_p S V hc, cl_q S V hc, zq_rf]; done) | (simp only [zC_n, zC_r, S.n, wr_0_0 S V, wr_0_1 S V, cl_r S V hc, cl_p S V hc, zq_rf]; have := V.lt; omega)) (by first | (simp only [zC_n, zC_k, zC_r, S.n, wk_0 S V, wk_1 S V, wr_0_0 S V, wr_0_1 S V, wk_9 S V, cl_k S V hc, cl_r S V hc, cl_p S V hc, cl_q S V hc, zq_rf]; done) | (simp only [zC_n, zC_r, S.n, wr_0_0 S V, wr_0_1 S V, cl_r S V hc, cl_p S V hc, zq_rf]; have := V.lt; omega)), zC_i (by omega)]
    by_cases h1 : x (10 + 2 * c) 1 = 0
    · have t33 : zv 1 10 33 [.ref (W + (10 + 2 * c))] [] (zC h W x y) = some (some (.int (zi_bI (decide (x (10 + 2 * c) 4 = 1 ∧ x (10 + 2 * c) 5 &&& 2 = 0)))), zC h W x y) := by
        rw [b10_33 (by first | (simp only [zC_n, zC_k, zC_r, S.n, wk_0 S V, wk_1 S V, wr_0_0 S V, wr_0_1 S V, wk_9 S V, cl_k S V hc, cl_r S V hc, cl_p S V hc, cl_q S V hc, zq_rf]; done) | (simp only [zC_n, zC_r, S.n, wr_0_0 S V, wr_0_1 S V, cl_r S V hc, cl_p S V hc, zq_rf]; have := V.lt; omega)) (by first | (simp only [zC_n, zC_k, zC_r, S.n, wk_0 S V, wk_1 S V, wr_0_0 S V, wr_0_1 S V, wk_9 S V, cl_k S V hc, cl_r S V hc, cl_p S V hc, cl_q S V hc, zq_rf]; done) | (simp only [zC_n, zC_r, S.n, wr_0_0 S V, wr_0_1 S V, cl_r S V hc, cl_p S V hc, zq_rf]; have := V.lt; omega)), zC_i (by omega)]
        by_cases a : x (10 + 2 * c) 4 = 1
        · rw [if_pos a, b10_41 (by first | (simp only [zC_n, zC_k, zC_r, S.n, wk_0 S V, wk_1 S V, wr_0_0 S V, wr_0_1 S V, wk_9 S V, cl_k S V hc, cl_r S V hc, cl_p S V hc, cl_q S V hc, zq_rf]; done) | (simp only [zC_n, zC_r, S.n, wr_0_0 S V, wr_0_1 S V, cl_r S V hc, cl_p S V hc, zq_rf]; have := V.lt; omega)) (by first | (simp only [zC_n, zC_k, zC_r, S.n, wk_0 S V, wk_1 S V, wr_0_0 S V, wr_0_1 S V, wk_9 S V, cl_k S V hc, cl_r S V hc, cl_p S V hc, cl_q S V hc, zq_rf]; done) | (simp only [zC_n, zC_r, S.n, wr_0_0 S V, wr_0_1 S V, cl_r S V hc, cl_p S V hc, zq_rf]; have := V.lt; omega)), zC_i (by omega)]
          by_cases b : x (10 + 2 * c) 5 &&& 2 = 0
          · rw [if_pos b, b10_50, b10_55 (Or.inr rfl), decide_eq_true ⟨a, b⟩]; rfl
          · rw [if_neg b, b10_54, b10_55 (Or.inl rfl), decide_eq_false (fun q => b q.2)]; rfl
        · rw [if_neg a, b10_54, b10_55 (Or.inl rfl), decide_eq_false (fun q => a q.1)]; rfl
      rw [if_pos h1, b10_17 (by first | (simp only [zC_n, zC_k, zC_r, S.n, wk_0 S V, wk_1 S V, wr_0_0 S V, wr_0_1 S V, wk_9 S V, cl_k S V hc, cl_r S V hc, cl_p S V hc, cl_q S V hc, zq_rf]; done) | (simp only [zC_n, zC_r, S.n, wr_0_0 S V, wr_0_1 S V, cl_r S V hc, cl_p S V hc, zq_rf]; have := V.lt; omega)) (by first | (simp only [zC_n, zC_k, zC_r, S.n, wk_0 S V, wk_1 S V, wr_0_0 S V, wr_0_1 S V, wk_9 S V, cl_k S V hc, cl_r S V hc, cl_p S V hc, cl_q S V hc, zq_rf]; done) | (simp only [zC_n, zC_r, S.n, wr_0_0 S V, wr_0_1 S V, cl_r S V hc, cl_p S V hc, zq_rf]; have := V.lt; omega)), zC_i (by omega)]
      by_cases a : x (10 + 2 * c) 4 = 0
      · rw [if_pos a, b10_24 (by first | (simp only [zC_n, zC_k, zC_r, S.n, wk_0 S V, wk_1 S V, wr_0_0 S V, wr_0_1 S V, wk_9 S V, cl_k S V hc, cl_r S V hc, cl_p S V hc, cl_q S V hc, zq_rf]; done) | (simp only [zC_n, zC_r, S.n, wr_0_0 S V, wr_0_1 S V, cl_r S V hc, cl_p S V hc, zq_rf]; have := V.lt; omega)) (by first | (simp only [zC_n, zC_k, zC_r, S.n, wk_0 S V, wk_1 S V, wr_0_0 S V, wr_0_1 S V, wk_9 S V, cl_k S V hc, cl_r S V hc, cl_p S V hc, cl_q S V hc, zq_rf]; done) | (simp only [zC_n, zC_r, S.n, wr_0_0 S V, wr_0_1 S V, cl_r S V hc, cl_p S V hc, zq_rf]; have := V.lt; omega)), zC_i (by omega)]
        by_cases b : x (10 + 2 * c) 5 &&& 1 = 0
        · rw [if_pos b, b10_50, b10_55 (Or.inr rfl), decide_eq_true ⟨⟨h5, h1⟩, Or.inl ⟨a, b⟩⟩]; rfl
        · rw [if_neg b, t33]
          congr 5
          rw [decide_eq_decide]
          exact ⟨fun q => ⟨⟨h5, h1⟩, Or.inr q⟩, fun q => q.2.elim (fun w => absurd w.2 b) id⟩
      · rw [if_neg a, t33]
        congr 5
        rw [decide_eq_decide]
        exact ⟨fun q => ⟨⟨h5, h1⟩, Or.inr q⟩, fun q => q.2.elim (fun w => absurd w.1 a) id⟩
    · rw [if_neg h1, b10_15, decide_eq_false (fun q => h1 q.1.2)]; rfl
  · rw [if_neg h5, b10_15, decide_eq_false (fun q => h5 q.1.1)]; rfl
theorem k_hu (S : Sh h) (V : Wa W) {u1 : Value} : ∃ b : Bool, zv 2 102 0 [.ref W, u1] [] (zC h W x y) = some (some (.int (zi_bI (!b))), zC h W x y) ∧ (b = true ↔ ∀ c, 0 ≤ c → c < 3 → unK x c = false) := by
  rw [b102_0]
  refine lpE (α := Unit) 0 (F := fun _ c => zv 2 102 2 [.ref W, .int c] [] (zC h W x y)) (E := fun b => some (some (.int (zi_bI (!b))), zC h W x y)) (P := fun c => unK x c = false) (N := 3) (fun c _ hc _ => ?_) (fun _ => ?_) 3 0 () (Nat.le_refl _) rfl
  · have nc : (nI c).toNatClampNeg = c := nI_clamp (by omega)
    have hzc : ¬ (nI c < 0 ∨ 3 ≤ c) := by have q := zj_n (N := 3) hc (by decide); rw [nc] at q; exact q
    try dsimp only
    have go : zv 2 102 2 [.ref W, .int (nI c)] [] (zC h W x y) = if zi_bI (unK x c) = 0 then zv 2 102 21 [.ref W, .int (nI c)] [] (zC h W x y) else zv 2 102 19 [.ref W, .int (nI c)] [] (zC h W x y) := by
      rw [b102_2, if_pos (show nI c < 3 from nI_lt (b := 3) hc (by decide)), b102_7 (by first | (simp +decide only [zC_n, zC_k, zC_r, S.n, wk_0 S V, wk_1 S V, wr_0_0 S V, wr_0_1 S V, wk_9 S V, nc, cl_k S V hc, cl_r S V hc, cl_p S V hc, cl_q S V hc, zq_rf, hzc]; done) | (simp only [zC_n, zC_r, S.n, wr_0_0 S V, wr_0_1 S V, nc, cl_r S V hc, cl_p S V hc, zq_rf]; have := V.lt; omega)) (by first | (simp +decide only [zC_n, zC_k, zC_r, S.n, wk_0 S V, wk_1 S V, wr_0_0 S V, wr_0_1 S V, wk_9 S V, nc, cl_k S V hc, cl_r S V hc, cl_p S V hc, cl_q S V hc, zq_rf, hzc]; done) | (simp only [zC_n, zC_r, S.n, wr_0_0 S V, wr_0_1 S V, nc, cl_r S V hc, cl_p S V hc, zq_rf]; have := V.lt; omega)) (by first | (simp +decide only [zC_n, zC_k, zC_r, S.n, wk_0 S V, wk_1 S V, wr_0_0 S V, wr_0_1 S V, wk_9 S V, nc, cl_k S V hc, cl_r S V hc, cl_p S V hc, cl_q S V hc, zq_rf, hzc]; done) | (simp only [zC_n, zC_r, S.n, wr_0_0 S V, wr_0_1 S V, nc, cl_r S V hc, cl_p S V hc, zq_rf]; have := V.lt; omega)) (by first | (simp +decide only [zC_n, zC_k, zC_r, S.n, wk_0 S V, wk_1 S V, wr_0_0 S V, wr_0_1 S V, wk_9 S V, nc, cl_k S V hc, cl_r S V hc, cl_p S V hc, cl_q S V hc, zq_rf, hzc]; done) | (simp only [zC_n, zC_r, S.n, wr_0_0 S V, wr_0_1 S V, nc, cl_r S V hc, cl_p S V hc, zq_rf]; have := V.lt; omega)) (by first | (simp +decide only [zC_n, zC_k, zC_r, S.n, wk_0 S V, wk_1 S V, wr_0_0 S V, wr_0_1 S V, wk_9 S V, nc, cl_k S V hc, cl_r S V hc, cl_p S V hc, cl_q S V hc, zq_rf, hzc]; done) | (simp only [zC_n, zC_r, S.n, wr_0_0 S V, wr_0_1 S V, nc, cl_r S V hc, cl_p S V hc, zq_rf]; have := V.lt; omega)) (by first | (simp +decide only [zC_n, zC_k, zC_r, S.n, wk_0 S V, wk_1 S V, wr_0_0 S V, wr_0_1 S V, wk_9 S V, nc, cl_k S V hc, cl_r S V hc, cl_p S V hc, cl_q S V hc, zq_rf, hzc]; done) | (simp only [zC_n, zC_r, S.n, wr_0_0 S V, wr_0_1 S V, nc, cl_r S V hc, cl_p S V hc, zq_rf]; have := V.lt; omega)) (by first | (simp +decide only [zC_n, zC_k, zC_r, S.n, wk_0 S V, wk_1 S V, wr_0_0 S V, wr_0_1 S V, wk_9 S V, nc, cl_k S V hc, cl_r S V hc, cl_p S V hc, cl_q S V hc, zq_rf, hzc]; done) | (simp only [zC_n, zC_r, S.n, wr_0_0 S V, wr_0_1 S V, nc, cl_r S V hc, cl_p S V hc, zq_rf]; have := V.lt; omega)) (by first | (simp +decide only [zC_n, zC_k, zC_r, S.n, wk_0 S V, wk_1 S V, wr_0_0 S V, wr_0_1 S V, wk_9 S V, nc, cl_k S V hc, cl_r S V hc, cl_p S V hc, cl_q S V hc, zq_rf, hzc]; done) | (simp only [zC_n, zC_r, S.n, wr_0_0 S V, wr_0_1 S V, nc, cl_r S V hc, cl_p S V hc, zq_rf]; have := V.lt; omega)) (by first | (simp +decide only [zC_n, zC_k, zC_r, S.n, wk_0 S V, wk_1 S V, wr_0_0 S V, wr_0_1 S V, wk_9 S V, nc, cl_k S V hc, cl_r S V hc, cl_p S V hc, cl_q S V hc, zq_rf, hzc]; done) | (simp only [zC_n, zC_r, S.n, wr_0_0 S V, wr_0_1 S V, nc, cl_r S V hc, cl_p S V hc, zq_rf]; have := V.lt; omega)), zC_r, zC_r, wr_0_1 S V, zq_rf, nc, cl_r S V hc, zq_rf, k_un S V hc]
      simp only [Option.bind_some, Option.toList_some, Option.toList_none, List.cons_append, List.nil_append]
      rw [b102_16]
    cases q : unK x c with
    | true => exact Or.inr ⟨fun w => absurd w (by decide), by rw [go, q, zi_bI_t, if_neg (by decide), b102_19]; rfl⟩
    | false => exact Or.inl ⟨rfl, (), by rw [go, q, zi_bI_f, if_pos rfl, b102_21, nI_s]⟩
  · try dsimp only
    rw [b102_2, if_neg (by decide), b102_27]; rfl
theorem k_ha (S : Sh h) (V : Wa W) {v a : Int32} : ∃ b : Bool, zv 2 103 0 [.ref W, .int v, .int a] [] (zC h W x y) = some (some (.int (zi_bI b)), zC h W x y) ∧ (b = true ↔ ∃ c, c < 3 ∧ v = nI c ∧ ¬ x (10 + 2 * c) 0 = 0 ∧ x (10 + 2 * c) 4 = a) := by
  rw [b103_0, p_133]
  simp only [Option.bind_some, Option.toList_some, Option.toList_none, List.cons_append, List.nil_append]
  rw [b103_4]
  by_cases hv : ¬ v < 0 ∧ v < 3
  · obtain ⟨c, hc, rfl⟩ := nI_ex (b := 3) (by decide) hv.1 hv.2
    have nc : (nI c).toNatClampNeg = c := nI_clamp (by omega)
    have hzc : ¬ (nI c < 0 ∨ 3 ≤ c) := by have q := zj_n (N := 3) hc (by decide); rw [nc] at q; exact q
    have un : ∀ d, d < 3 → nI c = nI d → d = c := fun d hd q => ((nI_eq' (by omega) (by omega)).mp q).symm
    rw [decide_eq_true hv, zi_bI_t, if_neg (by decide), b103_7 (by first | (simp +decide only [zC_n, zC_k, zC_r, S.n, wk_0 S V, wk_1 S V, wr_0_0 S V, wr_0_1 S V, wk_9 S V, nc, cl_k S V hc, cl_r S V hc, cl_p S V hc, cl_q S V hc, zq_rf, hzc]; done) | (simp only [zC_n, zC_r, S.n, wr_0_0 S V, wr_0_1 S V, nc, cl_r S V hc, cl_p S V hc, zq_rf]; have := V.lt; omega)) (by first | (simp +decide only [zC_n, zC_k, zC_r, S.n, wk_0 S V, wk_1 S V, wr_0_0 S V, wr_0_1 S V, wk_9 S V, nc, cl_k S V hc, cl_r S V hc, cl_p S V hc, cl_q S V hc, zq_rf, hzc]; done) | (simp only [zC_n, zC_r, S.n, wr_0_0 S V, wr_0_1 S V, nc, cl_r S V hc, cl_p S V hc, zq_rf]; have := V.lt; omega)) (by first | (simp +decide only [zC_n, zC_k, zC_r, S.n, wk_0 S V, wk_1 S V, wr_0_0 S V, wr_0_1 S V, wk_9 S V, nc, cl_k S V hc, cl_r S V hc, cl_p S V hc, cl_q S V hc, zq_rf, hzc]; done) | (simp only [zC_n, zC_r, S.n, wr_0_0 S V, wr_0_1 S V, nc, cl_r S V hc, cl_p S V hc, zq_rf]; have := V.lt; omega)) (by first | (simp +decide only [zC_n, zC_k, zC_r, S.n, wk_0 S V, wk_1 S V, wr_0_0 S V, wr_0_1 S V, wk_9 S V, nc, cl_k S V hc, cl_r S V hc, cl_p S V hc, cl_q S V hc, zq_rf, hzc]; done) | (simp only [zC_n, zC_r, S.n, wr_0_0 S V, wr_0_1 S V, nc, cl_r S V hc, cl_p S V hc, zq_rf]; have := V.lt; omega)) (by first | (simp +decide only [zC_n, zC_k, zC_r, S.n, wk_0 S V, wk_1 S V, wr_0_0 S V, wr_0_1 S V, wk_9 S V, nc, cl_k S V hc, cl_r S V hc, cl_p S V hc, cl_q S V hc, zq_rf, hzc]; done) | (simp only [zC_n, zC_r, S.n, wr_0_0 S V, wr_0_1 S V, nc, cl_r S V hc, cl_p S V hc, zq_rf]; have := V.lt; omega)) (by first | (simp +decide only [zC_n, zC_k, zC_r, S.n, wk_0 S V, wk_1 S V, wr_0_0 S V, wr_0_1 S V, wk_9 S V, nc, cl_k S V hc, cl_r S V hc, cl_p S V hc, cl_q S V hc, zq_rf, hzc]; done) | (simp only [zC_n, zC_r, S.n, wr_0_0 S V, wr_0_1 S V, nc, cl_r S V hc, cl_p S V hc, zq_rf]; have := V.lt; omega)) (by first | (simp +decide only [zC_n, zC_k, zC_r, S.n, wk_0 S V, wk_1 S V, wr_0_0 S V, wr_0_1 S V, wk_9 S V, nc, cl_k S V hc, cl_r S V hc, cl_p S V hc, cl_q S V hc, zq_rf, hzc]; done) | (simp only [zC_n, zC_r, S.n, wr_0_0 S V, wr_0_1 S V, nc, cl_r S V hc, cl_p S V hc, zq_rf]; have := V.lt; omega)) (by first | (simp +decide only [zC_n, zC_k, zC_r, S.n, wk_0 S V, wk_1 S V, wr_0_0 S V, wr_0_1 S V, wk_9 S V, nc, cl_k S V hc, cl_r S V hc, cl_p S V hc, cl_q S V hc, zq_rf, hzc]; done) | (simp only [zC_n, zC_r, S.n, wr_0_0 S V, wr_0_1 S V, nc, cl_r S V hc, cl_p S V hc, zq_rf]; have := V.lt; omega)) (by first | (simp +decide only [zC_n, zC_k, zC_r, S.n, wk_0 S V, wk_1 S V, wr_0_0 S V, wr_0_1 S V, wk_9 S V, nc, cl_k S V hc, cl_r S V hc, cl_p S V hc, cl_q S V hc, zq_rf, hzc]; done) | (simp only [zC_n, zC_r, S.n, wr_0_0 S V, wr_0_1 S V, nc, cl_r S V hc, cl_p S V hc, zq_rf]; have := V.lt; omega)), zC_r, zC_r, wr_0_1 S V, zq_rf, nc, cl_r S V hc, zq_rf, zC_i (by omega)]
    by_cases h0 : x (10 + 2 * c) 0 = 0
    · rw [if_pos h0, b103_36, b103_37 (Or.inl rfl)]
      exact ⟨false, rfl, fun q => absurd q (by decide), fun ⟨d, hd, e, q, _⟩ => by rw [un d hd e] at q; exact absurd h0 q⟩
    · rw [if_neg h0, b103_19 (by first | (simp +decide only [zC_n, zC_k, zC_r, S.n, wk_0 S V, wk_1 S V, wr_0_0 S V, wr_0_1 S V, wk_9 S V, nc, cl_k S V hc, cl_r S V hc, cl_p S V hc, cl_q S V hc, zq_rf, hzc]; done) | (simp only [zC_n, zC_r, S.n, wr_0_0 S V, wr_0_1 S V, nc, cl_r S V hc, cl_p S V hc, zq_rf]; have := V.lt; omega)) (by first | (simp +decide only [zC_n, zC_k, zC_r, S.n, wk_0 S V, wk_1 S V, wr_0_0 S V, wr_0_1 S V, wk_9 S V, nc, cl_k S V hc, cl_r S V hc, cl_p S V hc, cl_q S V hc, zq_rf, hzc]; done) | (simp only [zC_n, zC_r, S.n, wr_0_0 S V, wr_0_1 S V, nc, cl_r S V hc, cl_p S V hc, zq_rf]; have := V.lt; omega)) (by first | (simp +decide only [zC_n, zC_k, zC_r, S.n, wk_0 S V, wk_1 S V, wr_0_0 S V, wr_0_1 S V, wk_9 S V, nc, cl_k S V hc, cl_r S V hc, cl_p S V hc, cl_q S V hc, zq_rf, hzc]; done) | (simp only [zC_n, zC_r, S.n, wr_0_0 S V, wr_0_1 S V, nc, cl_r S V hc, cl_p S V hc, zq_rf]; have := V.lt; omega)) (by first | (simp +decide only [zC_n, zC_k, zC_r, S.n, wk_0 S V, wk_1 S V, wr_0_0 S V, wr_0_1 S V, wk_9 S V, nc, cl_k S V hc, cl_r S V hc, cl_p S V hc, cl_q S V hc, zq_rf, hzc]; done) | (simp only [zC_n, zC_r, S.n, wr_0_0 S V, wr_0_1 S V, nc, cl_r S V hc, cl_p S V hc, zq_rf]; have := V.lt; omega)) (by first | (simp +decide only [zC_n, zC_k, zC_r, S.n, wk_0 S V, wk_1 S V, wr_0_0 S V, wr_0_1 S V, wk_9 S V, nc, cl_k S V hc, cl_r S V hc, cl_p S V hc, cl_q S V hc, zq_rf, hzc]; done) | (simp only [zC_n, zC_r, S.n, wr_0_0 S V, wr_0_1 S V, nc, cl_r S V hc, cl_p S V hc, zq_rf]; have := V.lt; omega)) (by first | (simp +decide only [zC_n, zC_k, zC_r, S.n, wk_0 S V, wk_1 S V, wr_0_0 S V, wr_0_1 S V, wk_9 S V, nc, cl_k S V hc, cl_r S V hc, cl_p S V hc, cl_q S V hc, zq_rf, hzc]; done) | (simp only [zC_n, zC_r, S.n, wr_0_0 S V, wr_0_1 S V, nc, cl_r S V hc, cl_p S V hc, zq_rf]; have := V.lt; omega)) (by first | (simp +decide only [zC_n, zC_k, zC_r, S.n, wk_0 S V, wk_1 S V, wr_0_0 S V, wr_0_1 S V, wk_9 S V, nc, cl_k S V hc, cl_r S V hc, cl_p S V hc, cl_q S V hc, zq_rf, hzc]; done) | (simp only [zC_n, zC_r, S.n, wr_0_0 S V, wr_0_1 S V, nc, cl_r S V hc, cl_p S V hc, zq_rf]; have := V.lt; omega)) (by first | (simp +decide only [zC_n, zC_k, zC_r, S.n, wk_0 S V, wk_1 S V, wr_0_0 S V, wr_0_1 S V, wk_9 S V, nc, cl_k S V hc, cl_r S V hc, cl_p S V hc, cl_q S V hc, zq_rf, hzc]; done) | (simp only [zC_n, zC_r, S.n, wr_0_0 S V, wr_0_1 S V, nc, cl_r S V hc, cl_p S V hc, zq_rf]; have := V.lt; omega)) (by first | (simp +decide only [zC_n, zC_k, zC_r, S.n, wk_0 S V, wk_1 S V, wr_0_0 S V, wr_0_1 S V, wk_9 S V, nc, cl_k S V hc, cl_r S V hc, cl_p S V hc, cl_q S V hc, zq_rf, hzc]; done) | (simp only [zC_n, zC_r, S.n, wr_0_0 S V, wr_0_1 S V, nc, cl_r S V hc, cl_p S V hc, zq_rf]; have := V.lt; omega)), zC_r, zC_r, wr_0_1 S V, zq_rf, nc, cl_r S V hc, zq_rf, zC_i (by omega)]
      by_cases h4 : x (10 + 2 * c) 4 = a
      · rw [if_pos h4, b103_32, b103_37 (Or.inr rfl)]
        exact ⟨true, rfl, fun _ => ⟨c, hc, rfl, h0, h4⟩, fun _ => rfl⟩
      · rw [if_neg h4, b103_36, b103_37 (Or.inl rfl)]
        exact ⟨false, rfl, fun q => absurd q (by decide), fun ⟨d, hd, e, _, q⟩ => by rw [un d hd e] at q; exact absurd q h4⟩
  · rw [decide_eq_false hv, zi_bI_f, if_pos rfl, b103_36, b103_37 (Or.inl rfl)]
    exact ⟨false, rfl, fun q => absurd q (by decide), fun ⟨d, hd, e, _⟩ => by
      rw [e] at hv
      exact absurd ⟨nI_pos (by omega), nI_lt (b := 3) hd (by decide)⟩ hv⟩
end R32H
