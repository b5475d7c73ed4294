section
/-! BOTH SIDES: rows -/
/-- a client that answers an untruth -/
def UN (h : zi_Hp) (c : Nat) : Prop := zh_i h 212 (315 + 24 * c) = 5 ∧ zh_i h 212 (315 + 24 * c + 1) = 0 ∧ ((zh_i h 212 (315 + 24 * c + 4) = 0 ∧ zh_i h 212 (315 + 24 * c + 5) &&& 1 = 0) ∨ (zh_i h 212 (315 + 24 * c + 4) = 1 ∧ zh_i h 212 (315 + 24 * c + 5) &&& 2 = 0))
section R34Z7
variable {h h1 hc hr : zi_Hp} {W : Nat}
theorem bit_0 (v : Int32) : ((v >>> (nI 0 &&& 31)) &&& 1) = v &&& 1 := by
  have e : v >>> (nI 0 &&& 31) = v := by
    apply Int32.toBitVec_inj.mp
    rw [show (nI 0 &&& 31 : Int32) = 0 from by decide]
    simp
  rw [e]
theorem bit_1 (v : Int32) : ((v >>> (nI 1 &&& 31)) &&& 1) = 0 ↔ v &&& 2 = 0 := by
  rw [show (nI 1 &&& 31 : Int32) = 1 from by decide, ← Int32.toBitVec_inj, ← Int32.toBitVec_inj]
  have e1 : ((v >>> (1 : Int32)) &&& 1).toBitVec = (v.toBitVec.sshiftRight 1) &&& 1#32 := by
    rw [Int32.toBitVec_and, Int32.toBitVec_shiftRight]; rfl
  have e2 : (v &&& 2).toBitVec = v.toBitVec &&& 2#32 := by rw [Int32.toBitVec_and]; rfl
  rw [e1, e2]
  generalize v.toBitVec = b
  have z : (0 : Int32).toBitVec = 0#32 := rfl
  rw [z]
  constructor
  · intro q
    have q0 : b.getLsbD 1 = false := by
      have := congrArg (fun w => BitVec.getLsbD w 0) q
      simpa [BitVec.getElem_sshiftRight, BitVec.getLsbD_sshiftRight] using this
    apply BitVec.eq_of_getLsbD_eq
    intro i hi
    rw [BitVec.getLsbD_and]
    by_cases e : i = 1
    · subst e; rw [q0]; rfl
    · have : (2#32).getLsbD i = false := by
        rw [show (2#32 : BitVec 32) = BitVec.twoPow 32 1 from rfl, BitVec.getLsbD_twoPow]
        simp; omega
      rw [this, Bool.and_false]; simp
  · intro q
    have q0 : b.getLsbD 1 = false := by
      have := congrArg (fun w => BitVec.getLsbD w 1) q
      simpa using this
    apply BitVec.eq_of_getLsbD_eq
    intro i hi
    rw [BitVec.getLsbD_and]
    by_cases e : i = 0
    · subst e
      rw [BitVec.getLsbD_sshiftRight]
      have q1 : b[1] = false := by simpa using q0
      simp [q1]
    · have : (1#32).getLsbD i = false := by
        rw [show (1#32 : BitVec 32) = BitVec.twoPow 32 0 from rfl, BitVec.getLsbD_twoPow]
        simp; omega
      rw [this, Bool.and_false]; simp
theorem on_ex {k : Nat} (hk : k ≤ 5) : zv 1 173 0 [.int (nI k)] [] h = some (some (.int (if k = 0 ∨ k = 5 then 0 else 1)), h) := by
  have : k = 0 ∨ k = 1 ∨ k = 2 ∨ k = 3 ∨ k = 4 ∨ k = 5 := by omega
  rcases this with rfl | rfl | rfl | rfl | rfl | rfl
  · rw [b173_0, if_pos (by decide), b173_14, b173_15 (Or.inl rfl), if_pos (by decide)]
  · rw [b173_0, if_neg (by decide), b173_5, if_neg (by decide), b173_10, b173_15 (Or.inr rfl), if_neg (by decide)]
  · rw [b173_0, if_neg (by decide), b173_5, if_neg (by decide), b173_10, b173_15 (Or.inr rfl), if_neg (by decide)]
  · rw [b173_0, if_neg (by decide), b173_5, if_neg (by decide), b173_10, b173_15 (Or.inr rfl), if_neg (by decide)]
  · rw [b173_0, if_neg (by decide), b173_5, if_neg (by decide), b173_10, b173_15 (Or.inr rfl), if_neg (by decide)]
  · rw [b173_0, if_neg (by decide), b173_5, if_pos (by decide), b173_14, b173_15 (Or.inl rfl), if_pos (by decide)]
section
variable {x2 : Int32} {y3 : Int64}
/-- the class's row's end, its sums -/
theorem td5 (O : GO h) (V : Wa W) : ∃ (dn hu : Bool) (h' : zi_Hp), zv 3 73 0 [.ref 67, .ref W, .int x2, .long y3, .double 1] [] h = zv 3 73 82 [.ref 67, .ref W, .int x2, .long y3, .double 1] [] h' ∧ GO h' ∧ D5 h h' ∧ (dn = true ↔ ∀ c, c < 3 → ¬ (¬ zh_i h (W + (10 + 2 * c)) 0 = 0 ∧ ¬ zh_i h (W + (10 + 2 * c)) 0 = 5)) ∧ (hu = true ↔ ∃ c, c < 3 ∧ unK (wx h W) c = true) ∧ zh_i h' 67 1 = zh_i h 67 1 + 1 ∧ zh_i h' 67 2 = (if dn = true then zh_i h 67 2 + 1 else zh_i h 67 2) ∧ zh_i h' 67 3 = (if zh_i h 67 3 < zh_i h (W + 1) 0 then zh_i h (W + 1) 0 else zh_i h 67 3) ∧ zh_i h' 67 4 = (if zh_i h 67 4 < itF (fun c a => a + wx h W (10 + 2 * c) 7) 3 0 0 - zh_i h 67 10 then itF (fun c a => a + wx h W (10 + 2 * c) 7) 3 0 0 - zh_i h 67 10 else zh_i h 67 4) ∧ zh_i h' 67 5 = (if hu = true then zh_i h 67 5 + 1 else zh_i h 67 5) := by
  have l1 := V.l2
  have nW : ∀ o, o < 16 → W + o ≠ 67 := fun o ho => by unfold Wa at V; omega
  have ws : ∀ {m : zi_Hp}, (∀ a j, a ≠ 67 → zh_i m a j = zh_i h a j) → ∀ o, o < 16 → ∀ j, wx m W o j = wx h W o j := fun {m} e o ho j => e (W + o) j (nW o ho)
  obtain ⟨S, -⟩ := id O
  -- 1: one row more
  obtain ⟨m1, em1⟩ : ∃ m1, m1 = zh_wi h 67 1 (zh_i h 67 1 + 1) := ⟨_, rfl⟩
  have O1 : GO m1 := by rw [em1]; exact O.wi wo_67
  have f1 : ∀ a j, a ≠ 67 → zh_i m1 a j = zh_i h a j := fun a j q => by rw [em1, hp_i_wi, if_neg (by omega)]
  obtain ⟨dn, e1, hd⟩ := k_dn O1.1 V (x := wx m1 W) (y := wy m1 W) (u1 := .double 0)
  rw [zC_wx] at e1
  have hd' : dn = true ↔ ∀ c, c < 3 → ¬ (¬ zh_i h (W + (10 + 2 * c)) 0 = 0 ∧ ¬ zh_i h (W + (10 + 2 * c)) 0 = 5) := by
    rw [hd]
    have w : ∀ c, c < 3 → wx m1 W (10 + 2 * c) 0 = zh_i h (W + (10 + 2 * c)) 0 := fun c hc => ws f1 _ (by omega) 0
    exact ⟨fun q c hc => by rw [← w c hc]; exact q c (Nat.zero_le _) hc, fun q c _ hc => by rw [w c hc]; exact q c hc⟩
  -- 2: done rows
  obtain ⟨m2, em2⟩ : ∃ m2, m2 = (if dn = true then zh_wi m1 67 2 (zh_i m1 67 2 + 1) else m1) := ⟨_, rfl⟩
  have O2 : GO m2 := by
    rw [em2]
    split
    · exact O1.wi wo_67
    · exact O1
  have c2 : zv 3 73 0 [.ref 67, .ref W, .int x2, .long y3, .double 1] [] h = zv 3 73 27 [.ref 67, .ref W, .int x2, .long y3, .double 1] [] m2 := by
    rw [b73_0 (by first | (rw [S.n]; decide) | (rw [S.k, kx_67]; done) | (rw [S.n]; have := V.lt; omega) | (rw [wk_0 S V]; done) | (rw [wr_0_0 S V, zq_rf]; done) | (rw [wr_0_0 S V, zq_rf, S.n]; have := V.lt; omega) | (rw [wr_0_0 S V, zq_rf, wk_1 S V])) (by first | (rw [S.n]; decide) | (rw [S.k, kx_67]; done) | (rw [S.n]; have := V.lt; omega) | (rw [wk_0 S V]; done) | (rw [wr_0_0 S V, zq_rf]; done) | (rw [wr_0_0 S V, zq_rf, S.n]; have := V.lt; omega) | (rw [wr_0_0 S V, zq_rf, wk_1 S V])) (by first | (rw [S.n]; decide) | (rw [S.k, kx_67]; done) | (rw [S.n]; have := V.lt; omega) | (rw [wk_0 S V]; done) | (rw [wr_0_0 S V, zq_rf]; done) | (rw [wr_0_0 S V, zq_rf, S.n]; have := V.lt; omega) | (rw [wr_0_0 S V, zq_rf, wk_1 S V])) (by first | (rw [S.n]; decide) | (rw [S.k, kx_67]; done) | (rw [S.n]; have := V.lt; omega) | (rw [wk_0 S V]; done) | (rw [wr_0_0 S V, zq_rf]; done) | (rw [wr_0_0 S V, zq_rf, S.n]; have := V.lt; omega) | (rw [wr_0_0 S V, zq_rf, wk_1 S V])), ← em1, e1]
    simp only [Option.bind_some, Option.toList_some, Option.toList_none, List.cons_append, List.nil_append]
    obtain ⟨S, -⟩ := id O1
    rw [b73_14, em2]
    cases dn with
    | true => rw [zi_bI_t, if_neg (by decide), if_pos rfl, b73_17 (by first | (rw [S.n]; decide) | (rw [S.k, kx_67]; done) | (rw [S.n]; have := V.lt; omega) | (rw [wk_0 S V]; done) | (rw [wr_0_0 S V, zq_rf]; done) | (rw [wr_0_0 S V, zq_rf, S.n]; have := V.lt; omega) | (rw [wr_0_0 S V, zq_rf, wk_1 S V])) (by first | (rw [S.n]; decide) | (rw [S.k, kx_67]; done) | (rw [S.n]; have := V.lt; omega) | (rw [wk_0 S V]; done) | (rw [wr_0_0 S V, zq_rf]; done) | (rw [wr_0_0 S V, zq_rf, S.n]; have := V.lt; omega) | (rw [wr_0_0 S V, zq_rf, wk_1 S V]))]
    | false => rw [zi_bI_f, if_pos rfl, if_neg (by decide)]
  have g2 : ∀ a j, ¬ (a = 67 ∧ j = 1) → ¬ (a = 67 ∧ j = 2) → zh_i m2 a j = zh_i h a j := fun a j q1 q2 => by
    rw [em2]
    split
    · rw [hp_i_wi, if_neg q2, em1, hp_i_wi, if_neg q1]
    · rw [em1, hp_i_wi, if_neg q1]
  have b2 : ∀ a j, zh_b m2 a j = zh_b h a j ∧ zh_l m2 a j = zh_l h a j := fun a j => by
    rw [em2, em1]
    split
    · exact ⟨Eq.trans rfl rfl, Eq.trans rfl rfl⟩
    · exact ⟨Eq.trans rfl rfl, Eq.trans rfl rfl⟩
  have v1 : zh_i m2 67 1 = zh_i h 67 1 + 1 := by
    rw [em2]
    split
    · rw [hp_i_wi, if_neg (by decide), em1, hp_i_wi, if_pos ⟨rfl, rfl⟩]
    · rw [em1, hp_i_wi, if_pos ⟨rfl, rfl⟩]
  have v2 : zh_i m2 67 2 = (if dn = true then zh_i h 67 2 + 1 else zh_i h 67 2) := by
    rw [em2]
    split
    · rw [hp_i_wi, if_pos ⟨rfl, rfl⟩, em1, hp_i_wi, if_neg (by decide)]
    · rw [em1, hp_i_wi, if_neg (by decide)]
  -- 3: nodes
  obtain ⟨m3, em3⟩ : ∃ m3, m3 = zh_wi m2 67 3 (if zh_i h 67 3 < zh_i h (W + 1) 0 then zh_i h (W + 1) 0 else zh_i h 67 3) := ⟨_, rfl⟩
  have O3 : GO m3 := by rw [em3]; exact O2.wi wo_67
  have c3 : zv 3 73 27 [.ref 67, .ref W, .int x2, .long y3, .double 1] [] m2 = zv 3 73 47 [.ref 67, .ref W, .int x2, .long y3, .double 1] [.ref 67, .ref 67] m3 := by
    obtain ⟨S, -⟩ := id O2
    rw [b73_27 (by first | (rw [S.n]; decide) | (rw [S.k, kx_67]; done) | (rw [S.n]; have := V.lt; omega) | (rw [wk_0 S V]; done) | (rw [wr_0_0 S V, zq_rf]; done) | (rw [wr_0_0 S V, zq_rf, S.n]; have := V.lt; omega) | (rw [wr_0_0 S V, zq_rf, wk_1 S V])) (by first | (rw [S.n]; decide) | (rw [S.k, kx_67]; done) | (rw [S.n]; have := V.lt; omega) | (rw [wk_0 S V]; done) | (rw [wr_0_0 S V, zq_rf]; done) | (rw [wr_0_0 S V, zq_rf, S.n]; have := V.lt; omega) | (rw [wr_0_0 S V, zq_rf, wk_1 S V])) (by first | (rw [S.n]; decide) | (rw [S.k, kx_67]; done) | (rw [S.n]; have := V.lt; omega) | (rw [wk_0 S V]; done) | (rw [wr_0_0 S V, zq_rf]; done) | (rw [wr_0_0 S V, zq_rf, S.n]; have := V.lt; omega) | (rw [wr_0_0 S V, zq_rf, wk_1 S V])) (by first | (rw [S.n]; decide) | (rw [S.k, kx_67]; done) | (rw [S.n]; have := V.lt; omega) | (rw [wk_0 S V]; done) | (rw [wr_0_0 S V, zq_rf]; done) | (rw [wr_0_0 S V, zq_rf, S.n]; have := V.lt; omega) | (rw [wr_0_0 S V, zq_rf, wk_1 S V])) (by first | (rw [S.n]; decide) | (rw [S.k, kx_67]; done) | (rw [S.n]; have := V.lt; omega) | (rw [wk_0 S V]; done) | (rw [wr_0_0 S V, zq_rf]; done) | (rw [wr_0_0 S V, zq_rf, S.n]; have := V.lt; omega) | (rw [wr_0_0 S V, zq_rf, wk_1 S V])) (by first | (rw [S.n]; decide) | (rw [S.k, kx_67]; done) | (rw [S.n]; have := V.lt; omega) | (rw [wk_0 S V]; done) | (rw [wr_0_0 S V, zq_rf]; done) | (rw [wr_0_0 S V, zq_rf, S.n]; have := V.lt; omega) | (rw [wr_0_0 S V, zq_rf, wk_1 S V])) (by first | (rw [S.n]; decide) | (rw [S.k, kx_67]; done) | (rw [S.n]; have := V.lt; omega) | (rw [wk_0 S V]; done) | (rw [wr_0_0 S V, zq_rf]; done) | (rw [wr_0_0 S V, zq_rf, S.n]; have := V.lt; omega) | (rw [wr_0_0 S V, zq_rf, wk_1 S V])), wr_0_0 S V, zq_rf, em3, g2 67 3 (by decide) (by decide), g2 (W + 1) 0 (by omega) (by omega)]
  -- 4: rights
  have f3 : ∀ a j, a ≠ 67 → zh_i m3 a j = zh_i h a j := fun a j q => by rw [em3, hp_i_wi, if_neg (by omega), g2 a j (by omega) (by omega)]
  have ar3 : itF (fun c a => a + wx m3 W (10 + 2 * c) 7) 3 0 0 = itF (fun c a => a + wx h W (10 + 2 * c) 7) 3 0 0 := by
    show ((0 + wx m3 W (10 + 2 * 0) 7) + wx m3 W (10 + 2 * 1) 7) + wx m3 W (10 + 2 * 2) 7 = ((0 + wx h W (10 + 2 * 0) 7) + wx h W (10 + 2 * 1) 7) + wx h W (10 + 2 * 2) 7
    rw [ws f3 _ (by decide), ws f3 _ (by decide), ws f3 _ (by decide)]
  have e4 := k_ar O3.1 V (x := wx m3 W) (y := wy m3 W) (u1 := .double 0) (u2 := .double 0)
  rw [zC_wx, ar3] at e4
  obtain ⟨A, eA⟩ : ∃ A, A = itF (fun c a => a + wx h W (10 + 2 * c) 7) 3 0 0 := ⟨_, rfl⟩
  rw [← eA] at e4 ⊢
  obtain ⟨m4, em4⟩ : ∃ m4, m4 = zh_wi m3 67 4 (if zh_i h 67 4 < A - zh_i h 67 10 then A - zh_i h 67 10 else zh_i h 67 4) := ⟨_, rfl⟩
  have O4 : GO m4 := by rw [em4]; exact O3.wi wo_67
  have f4 : ∀ a j, a ≠ 67 → zh_i m4 a j = zh_i h a j := fun a j q => by rw [em4, hp_i_wi, if_neg (by omega), f3 a j q]
  obtain ⟨bb, e5, hb⟩ := k_hu O4.1 V (x := wx m4 W) (y := wy m4 W) (u1 := .double 0)
  rw [zC_wx] at e5
  have p4 : zh_i m3 67 4 = zh_i h 67 4 := by rw [em3, hp_i_wi, if_neg (by decide), g2 _ _ (by decide) (by decide)]
  have p10 : zh_i m3 67 10 = zh_i h 67 10 := by rw [em3, hp_i_wi, if_neg (by decide), g2 _ _ (by decide) (by decide)]
  have c4 : zv 3 73 47 [.ref 67, .ref W, .int x2, .long y3, .double 1] [.ref 67, .ref 67] m3 = zv 3 73 69 [.ref 67, .ref W, .int x2, .long y3, .double 1] [.int (zi_bI (!bb))] m4 := by
    obtain ⟨S, -⟩ := id O3
    rw [b73_47 (by first | (rw [S.n]; decide) | (rw [S.k, kx_67]; done) | (rw [S.n]; have := V.lt; omega) | (rw [wk_0 S V]; done) | (rw [wr_0_0 S V, zq_rf]; done) | (rw [wr_0_0 S V, zq_rf, S.n]; have := V.lt; omega) | (rw [wr_0_0 S V, zq_rf, wk_1 S V])) (by first | (rw [S.n]; decide) | (rw [S.k, kx_67]; done) | (rw [S.n]; have := V.lt; omega) | (rw [wk_0 S V]; done) | (rw [wr_0_0 S V, zq_rf]; done) | (rw [wr_0_0 S V, zq_rf, S.n]; have := V.lt; omega) | (rw [wr_0_0 S V, zq_rf, wk_1 S V])) (by first | (rw [S.n]; decide) | (rw [S.k, kx_67]; done) | (rw [S.n]; have := V.lt; omega) | (rw [wk_0 S V]; done) | (rw [wr_0_0 S V, zq_rf]; done) | (rw [wr_0_0 S V, zq_rf, S.n]; have := V.lt; omega) | (rw [wr_0_0 S V, zq_rf, wk_1 S V])) (by first | (rw [S.n]; decide) | (rw [S.k, kx_67]; done) | (rw [S.n]; have := V.lt; omega) | (rw [wk_0 S V]; done) | (rw [wr_0_0 S V, zq_rf]; done) | (rw [wr_0_0 S V, zq_rf, S.n]; have := V.lt; omega) | (rw [wr_0_0 S V, zq_rf, wk_1 S V])), e4]
    simp only [Option.bind_some, Option.toList_some, Option.toList_none, List.cons_append, List.nil_append]
    rw [b73_54 (by first | (rw [S.n]; decide) | (rw [S.k, kx_67]; done) | (rw [S.n]; have := V.lt; omega) | (rw [wk_0 S V]; done) | (rw [wr_0_0 S V, zq_rf]; done) | (rw [wr_0_0 S V, zq_rf, S.n]; have := V.lt; omega) | (rw [wr_0_0 S V, zq_rf, wk_1 S V])) (by first | (rw [S.n]; decide) | (rw [S.k, kx_67]; done) | (rw [S.n]; have := V.lt; omega) | (rw [wk_0 S V]; done) | (rw [wr_0_0 S V, zq_rf]; done) | (rw [wr_0_0 S V, zq_rf, S.n]; have := V.lt; omega) | (rw [wr_0_0 S V, zq_rf, wk_1 S V])) (by first | (rw [S.n]; decide) | (rw [S.k, kx_67]; done) | (rw [S.n]; have := V.lt; omega) | (rw [wk_0 S V]; done) | (rw [wr_0_0 S V, zq_rf]; done) | (rw [wr_0_0 S V, zq_rf, S.n]; have := V.lt; omega) | (rw [wr_0_0 S V, zq_rf, wk_1 S V])) (by first | (rw [S.n]; decide) | (rw [S.k, kx_67]; done) | (rw [S.n]; have := V.lt; omega) | (rw [wk_0 S V]; done) | (rw [wr_0_0 S V, zq_rf]; done) | (rw [wr_0_0 S V, zq_rf, S.n]; have := V.lt; omega) | (rw [wr_0_0 S V, zq_rf, wk_1 S V])) (by first | (rw [S.n]; decide) | (rw [S.k, kx_67]; done) | (rw [S.n]; have := V.lt; omega) | (rw [wk_0 S V]; done) | (rw [wr_0_0 S V, zq_rf]; done) | (rw [wr_0_0 S V, zq_rf, S.n]; have := V.lt; omega) | (rw [wr_0_0 S V, zq_rf, wk_1 S V])) (by first | (rw [S.n]; decide) | (rw [S.k, kx_67]; done) | (rw [S.n]; have := V.lt; omega) | (rw [wk_0 S V]; done) | (rw [wr_0_0 S V, zq_rf]; done) | (rw [wr_0_0 S V, zq_rf, S.n]; have := V.lt; omega) | (rw [wr_0_0 S V, zq_rf, wk_1 S V])), p4, p10, ← em4, e5]
    simp only [Option.bind_some, Option.toList_some, Option.toList_none, List.cons_append, List.nil_append]
  have hu' : (!bb) = true ↔ ∃ c, c < 3 ∧ unK (wx h W) c = true := by
    have un : ∀ c, c < 3 → unK (wx m4 W) c = unK (wx h W) c := fun c hc => by
      unfold unK
      rw [ws f4 _ (by omega), ws f4 _ (by omega), ws f4 _ (by omega), ws f4 _ (by omega)]
    constructor
    · intro q
      refine Classical.byContradiction (fun z => ?_)
      have : bb = true := hb.mpr (fun c _ hc => by
        cases w : unK (wx m4 W) c with
        | false => rfl
        | true => exact absurd ⟨c, hc, by rw [← un c hc]; exact w⟩ z)
      rw [this] at q
      exact absurd q (by decide)
    · rintro ⟨c, hc, q⟩
      cases w : bb with
      | false => rfl
      | true =>
        have := hb.mp w c (Nat.zero_le _) hc
        rw [un c hc, q] at this
        exact absurd this (by decide)
  obtain ⟨m5, em5⟩ : ∃ m5, m5 = (if (!bb) = true then zh_wi m4 67 5 (zh_i m4 67 5 + 1) else m4) := ⟨_, rfl⟩
  have O5 : GO m5 := by
    rw [em5]
    split
    · exact O4.wi wo_67
    · exact O4
  have c5 : zv 3 73 69 [.ref 67, .ref W, .int x2, .long y3, .double 1] [.int (zi_bI (!bb))] m4 = zv 3 73 82 [.ref 67, .ref W, .int x2, .long y3, .double 1] [] m5 := by
    obtain ⟨S, -⟩ := id O4
    rw [b73_69, em5]
    cases (!bb) with
    | true => rw [zi_bI_t, if_neg (by decide), if_pos rfl, b73_72 (by first | (rw [S.n]; decide) | (rw [S.k, kx_67]; done) | (rw [S.n]; have := V.lt; omega) | (rw [wk_0 S V]; done) | (rw [wr_0_0 S V, zq_rf]; done) | (rw [wr_0_0 S V, zq_rf, S.n]; have := V.lt; omega) | (rw [wr_0_0 S V, zq_rf, wk_1 S V])) (by first | (rw [S.n]; decide) | (rw [S.k, kx_67]; done) | (rw [S.n]; have := V.lt; omega) | (rw [wk_0 S V]; done) | (rw [wr_0_0 S V, zq_rf]; done) | (rw [wr_0_0 S V, zq_rf, S.n]; have := V.lt; omega) | (rw [wr_0_0 S V, zq_rf, wk_1 S V]))]
    | false => rw [zi_bI_f, if_pos rfl, if_neg (by decide)]
  have k5 : ∀ a j, ¬ (a = 67 ∧ j = 5) → zh_i m5 a j = zh_i m4 a j := fun a j q => by
    rw [em5]
    split
    · rw [hp_i_wi, if_neg q]
    · rfl
  refine ⟨dn, !bb, m5, by rw [c2, c3, c4, c5], O5, ⟨fun a j q => ?_, fun a j => ?_, fun a j => ?_⟩, hd', hu', ?_, ?_, ?_, ?_, ?_⟩
  · rw [k5 _ _ (by omega), em4, hp_i_wi, if_neg (by omega), em3, hp_i_wi, if_neg (by omega), g2 _ _ (by omega) (by omega)]
  · rw [← (b2 a j).1, em5, em4, em3]
    split <;> exact Eq.trans rfl rfl
  · rw [← (b2 a j).2, em5, em4, em3]
    split <;> exact Eq.trans rfl rfl
  · rw [k5 _ _ (by decide), em4, hp_i_wi, if_neg (by decide), em3, hp_i_wi, if_neg (by decide), v1]
  · rw [k5 _ _ (by decide), em4, hp_i_wi, if_neg (by decide), em3, hp_i_wi, if_neg (by decide), v2]
  · rw [k5 _ _ (by decide), em4, hp_i_wi, if_neg (by decide), em3, hp_i_wi, if_pos ⟨rfl, rfl⟩]
  · rw [k5 _ _ (by decide), em4, hp_i_wi, if_pos ⟨rfl, rfl⟩]
  · have q5 : zh_i m4 67 5 = zh_i h 67 5 := by rw [em4, hp_i_wi, if_neg (by decide), em3, hp_i_wi, if_neg (by decide), g2 _ _ (by decide) (by decide)]
    rw [em5]
    split
    · rw [hp_i_wi, if_pos ⟨rfl, rfl⟩, q5]
    · exact q5
end
/-- a turn of the reference's tally, its flags -/
theorem re_t5 (S : Sh h) {k5 : Nat} {d c : Nat} (hd : d < 8) (hc : c < 3) (hk5 : k5 ≤ 5) (est : zh_i h 212 (315 + 24 * c) = nI k5) {x2 x3 : Int32} {u5 u6 u7 : Value} : ∃ y2 y3 v5 v6 v7 h', zv 2 213 81 [.ref 211, .int (nI d), .int x2, .int x3, .int (nI c), u5, u6, u7] [] h = zv 2 213 81 [.ref 211, .int (nI d), .int y2, .int y3, .int (nI (c + 1)), v5, v6, v7] [] h' ∧ Tq h h' ∧ (∀ j, 27 ≤ j → zh_i h' 211 j = zh_i h 211 j) ∧ (¬ y2 = 0 ↔ ¬ x2 = 0 ∧ (k5 = 0 ∨ k5 = 5)) ∧ (¬ y3 = 0 ↔ ¬ x3 = 0 ∨ UN h c) := by
  have e3 : nI c < 3 := nI_lt (b := 3) hc (by decide)
  have hz : ¬ (nI d < 0 ∨ 8 ≤ (nI d).toNatClampNeg) := zj_n (by omega) (by decide)
  rw [b213_81, if_pos e3, b213_87 (S_g0 S) (S_g1 S), r_oc0 S hc]
  simp only [Option.bind_some, Option.toList_some, Option.toList_none, List.cons_append, List.nil_append]
  rw [b213_94 (S_g0 S) (S_g1 S), r_oc4 S hc]
  simp only [Option.bind_some, Option.toList_some, Option.toList_none, List.cons_append, List.nil_append]
  obtain ⟨an, ean⟩ : ∃ an, an = zh_i h 212 (315 + 24 * c + 4) := ⟨_, rfl⟩
  rw [← ean, est]
  have m1 : ∃ y : Int32, (¬ y = 0 ↔ ¬ x2 = 0 ∧ (k5 = 0 ∨ k5 = 5)) ∧ zv 2 213 103 [.ref 211, .int (nI d), .int x2, .int x3, .int (nI c), .int (nI k5), u6, u7] [.int an] h = zv 2 213 122 [.ref 211, .int (nI d), .int x2, .int x3, .int (nI c), .int (nI k5), .int an, u7] [.int y] h := by
    rw [b213_103]
    by_cases q : x2 = 0
    · rw [if_pos q, b213_121]; exact ⟨0, ⟨fun w => absurd rfl w, fun w => absurd q w.1⟩, rfl⟩
    · rw [if_neg q, b213_109, on_ex hk5]
      simp only [Option.bind_some, Option.toList_some, Option.toList_none, List.cons_append, List.nil_append]
      rw [b213_114]
      by_cases q2 : k5 = 0 ∨ k5 = 5
      · rw [if_pos q2, if_pos rfl, b213_117]; exact ⟨1, ⟨fun _ => ⟨q, q2⟩, fun _ => by decide⟩, rfl⟩
      · rw [if_neg q2, if_neg (by decide), b213_121]; exact ⟨0, ⟨fun w => absurd rfl w, fun w => absurd w.2 q2⟩, rfl⟩
  obtain ⟨y, hy2, ey⟩ := m1
  rw [ey, b213_122]
  by_cases h0 : k5 = 0
  · rw [if_pos (show nI k5 = 0 by rw [h0]; rfl), b213_249, nI_s]
    exact ⟨_, _, _, _, _, h, rfl, Tq.refl S, fun _ _ => rfl, hy2, ⟨Or.inl, fun w => w.elim id (fun u => absurd u.1 (by rw [est, h0]; decide))⟩⟩
  · have n0 : ¬ nI k5 = 0 := fun w => h0 ((nI_eq' (b := 0) (by omega) (by decide)).mp w)
    rw [if_neg n0, b213_128, show (0 : Int64) = (nI 0).toInt64 from rfl, show (1 : Int64) = (nI 1).toInt64 from rfl]
    rcases in_or an 0 1 (by decide) (by decide) with ⟨a, -, ha, ean2, hx⟩ | hx
    · subst ean2
      have hy : ¬ (nI (2 * c + a) < 0 ∨ 6 ≤ (nI (2 * c + a)).toNatClampNeg) := zj_n (by omega) (by decide)
      have r33 : zh_r h 211 33 = .ref 228 := by rw [S.r, rx_211_33]
      have r32 : zh_r h 211 32 = .ref 227 := by rw [S.r, rx_211_32]
      have r34 : zh_r h 211 34 = .ref 229 := by rw [S.r, rx_211_34]
      rw [c_iy hx]
      simp only [Option.bind_some, Option.toList_some, Option.toList_none, List.cons_append, List.nil_append]
      rw [b213_136, if_neg (by decide), b213_139 (by simp +decide only [S.n, S.k, S.r, hp_n_wi, hp_k_wi, hp_r_wi, hp_n_wl, hp_k_wl, hp_r_wl, zq_rf, kx_211, kx_212, kx_221, kx_222, kx_223, kx_224, kx_225, kx_226, kx_227, kx_228, kx_229, rx_211_0, rx_211_21, rx_211_22, rx_211_23, rx_211_24, rx_211_25, rx_211_26, rx_211_32, rx_211_33, rx_211_34, hz, hy]) (by simp +decide only [S.n, S.k, S.r, hp_n_wi, hp_k_wi, hp_r_wi, hp_n_wl, hp_k_wl, hp_r_wl, zq_rf, kx_211, kx_212, kx_221, kx_222, kx_223, kx_224, kx_225, kx_226, kx_227, kx_228, kx_229, rx_211_0, rx_211_21, rx_211_22, rx_211_23, rx_211_24, rx_211_25, rx_211_26, rx_211_32, rx_211_33, rx_211_34, hz, hy]) (by simp +decide only [S.n, S.k, S.r, hp_n_wi, hp_k_wi, hp_r_wi, hp_n_wl, hp_k_wl, hp_r_wl, zq_rf, kx_211, kx_212, kx_221, kx_222, kx_223, kx_224, kx_225, kx_226, kx_227, kx_228, kx_229, rx_211_0, rx_211_21, rx_211_22, rx_211_23, rx_211_24, rx_211_25, rx_211_26, rx_211_32, rx_211_33, rx_211_34, hz, hy]) (by simp +decide only [S.n, S.k, S.r, hp_n_wi, hp_k_wi, hp_r_wi, hp_n_wl, hp_k_wl, hp_r_wl, zq_rf, kx_211, kx_212, kx_221, kx_222, kx_223, kx_224, kx_225, kx_226, kx_227, kx_228, kx_229, rx_211_0, rx_211_21, rx_211_22, rx_211_23, rx_211_24, rx_211_25, rx_211_26, rx_211_32, rx_211_33, rx_211_34, hz, hy]) (by simp +decide only [S.n, S.k, S.r, hp_n_wi, hp_k_wi, hp_r_wi, hp_n_wl, hp_k_wl, hp_r_wl, zq_rf, kx_211, kx_212, kx_221, kx_222, kx_223, kx_224, kx_225, kx_226, kx_227, kx_228, kx_229, rx_211_0, rx_211_21, rx_211_22, rx_211_23, rx_211_24, rx_211_25, rx_211_26, rx_211_32, rx_211_33, rx_211_34, hz, hy]) (by rw [nI_i2]; exact (by simp +decide only [S.n, S.k, S.r, hp_n_wi, hp_k_wi, hp_r_wi, hp_n_wl, hp_k_wl, hp_r_wl, zq_rf, kx_211, kx_212, kx_221, kx_222, kx_223, kx_224, kx_225, kx_226, kx_227, kx_228, kx_229, rx_211_0, rx_211_21, rx_211_22, rx_211_23, rx_211_24, rx_211_25, rx_211_26, rx_211_32, rx_211_33, rx_211_34, hz, hy])) (by simp +decide only [S.n, S.k, S.r, hp_n_wi, hp_k_wi, hp_r_wi, hp_n_wl, hp_k_wl, hp_r_wl, zq_rf, kx_211, kx_212, kx_221, kx_222, kx_223, kx_224, kx_225, kx_226, kx_227, kx_228, kx_229, rx_211_0, rx_211_21, rx_211_22, rx_211_23, rx_211_24, rx_211_25, rx_211_26, rx_211_32, rx_211_33, rx_211_34, hz, hy]), nI_i2, r32, r33, zq_rf, zq_rf]
      have m2 : ∃ v, (if zh_i h 227 (nI (2 * c + a)).toNatClampNeg = 0 then zv 2 213 164 [.ref 211, .int (nI d), .int y, .int x3, .int (nI c), .int (nI k5), .int (nI a), .int (nI (2 * c + a))] [.int (nI (2 * c + a)), .ref 228] h else zv 2 213 173 [.ref 211, .int (nI d), .int y, .int x3, .int (nI c), .int (nI k5), .int (nI a), .int (nI (2 * c + a))] [.int (nI (2 * c + a)), .ref 228] h) = zv 2 213 180 [.ref 211, .int (nI d), .int y, .int x3, .int (nI c), .int (nI k5), .int (nI a), .int (nI (2 * c + a))] [.int v, .int (nI (2 * c + a)), .ref 228] h := by
        split
        · rw [b213_164 (by simp +decide only [S.n, S.k, S.r, hp_n_wi, hp_k_wi, hp_r_wi, hp_n_wl, hp_k_wl, hp_r_wl, zq_rf, kx_211, kx_212, kx_221, kx_222, kx_223, kx_224, kx_225, kx_226, kx_227, kx_228, kx_229, rx_211_0, rx_211_21, rx_211_22, rx_211_23, rx_211_24, rx_211_25, rx_211_26, rx_211_32, rx_211_33, rx_211_34, hz, hy]) (by simp +decide only [S.n, S.k, S.r, hp_n_wi, hp_k_wi, hp_r_wi, hp_n_wl, hp_k_wl, hp_r_wl, zq_rf, kx_211, kx_212, kx_221, kx_222, kx_223, kx_224, kx_225, kx_226, kx_227, kx_228, kx_229, rx_211_0, rx_211_21, rx_211_22, rx_211_23, rx_211_24, rx_211_25, rx_211_26, rx_211_32, rx_211_33, rx_211_34, hz, hy]) (by simp +decide only [S.n, S.k, S.r, hp_n_wi, hp_k_wi, hp_r_wi, hp_n_wl, hp_k_wl, hp_r_wl, zq_rf, kx_211, kx_212, kx_221, kx_222, kx_223, kx_224, kx_225, kx_226, kx_227, kx_228, kx_229, rx_211_0, rx_211_21, rx_211_22, rx_211_23, rx_211_24, rx_211_25, rx_211_26, rx_211_32, rx_211_33, rx_211_34, hz, hy]) (by simp +decide only [S.n, S.k, S.r, hp_n_wi, hp_k_wi, hp_r_wi, hp_n_wl, hp_k_wl, hp_r_wl, zq_rf, kx_211, kx_212, kx_221, kx_222, kx_223, kx_224, kx_225, kx_226, kx_227, kx_228, kx_229, rx_211_0, rx_211_21, rx_211_22, rx_211_23, rx_211_24, rx_211_25, rx_211_26, rx_211_32, rx_211_33, rx_211_34, hz, hy]) (by simp +decide only [S.n, S.k, S.r, hp_n_wi, hp_k_wi, hp_r_wi, hp_n_wl, hp_k_wl, hp_r_wl, zq_rf, kx_211, kx_212, kx_221, kx_222, kx_223, kx_224, kx_225, kx_226, kx_227, kx_228, kx_229, rx_211_0, rx_211_21, rx_211_22, rx_211_23, rx_211_24, rx_211_25, rx_211_26, rx_211_32, rx_211_33, rx_211_34, hz, hy]) (by simp +decide only [S.n, S.k, S.r, hp_n_wi, hp_k_wi, hp_r_wi, hp_n_wl, hp_k_wl, hp_r_wl, zq_rf, kx_211, kx_212, kx_221, kx_222, kx_223, kx_224, kx_225, kx_226, kx_227, kx_228, kx_229, rx_211_0, rx_211_21, rx_211_22, rx_211_23, rx_211_24, rx_211_25, rx_211_26, rx_211_32, rx_211_33, rx_211_34, hz, hy])]; exact ⟨_, rfl⟩
        · rw [b213_173 (by simp +decide only [S.n, S.k, S.r, hp_n_wi, hp_k_wi, hp_r_wi, hp_n_wl, hp_k_wl, hp_r_wl, zq_rf, kx_211, kx_212, kx_221, kx_222, kx_223, kx_224, kx_225, kx_226, kx_227, kx_228, kx_229, rx_211_0, rx_211_21, rx_211_22, rx_211_23, rx_211_24, rx_211_25, rx_211_26, rx_211_32, rx_211_33, rx_211_34, hz, hy]) (by simp +decide only [S.n, S.k, S.r, hp_n_wi, hp_k_wi, hp_r_wi, hp_n_wl, hp_k_wl, hp_r_wl, zq_rf, kx_211, kx_212, kx_221, kx_222, kx_223, kx_224, kx_225, kx_226, kx_227, kx_228, kx_229, rx_211_0, rx_211_21, rx_211_22, rx_211_23, rx_211_24, rx_211_25, rx_211_26, rx_211_32, rx_211_33, rx_211_34, hz, hy]) (by simp +decide only [S.n, S.k, S.r, hp_n_wi, hp_k_wi, hp_r_wi, hp_n_wl, hp_k_wl, hp_r_wl, zq_rf, kx_211, kx_212, kx_221, kx_222, kx_223, kx_224, kx_225, kx_226, kx_227, kx_228, kx_229, rx_211_0, rx_211_21, rx_211_22, rx_211_23, rx_211_24, rx_211_25, rx_211_26, rx_211_32, rx_211_33, rx_211_34, hz, hy]) (by simp +decide only [S.n, S.k, S.r, hp_n_wi, hp_k_wi, hp_r_wi, hp_n_wl, hp_k_wl, hp_r_wl, zq_rf, kx_211, kx_212, kx_221, kx_222, kx_223, kx_224, kx_225, kx_226, kx_227, kx_228, kx_229, rx_211_0, rx_211_21, rx_211_22, rx_211_23, rx_211_24, rx_211_25, rx_211_26, rx_211_32, rx_211_33, rx_211_34, hz, hy]) (by simp +decide only [S.n, S.k, S.r, hp_n_wi, hp_k_wi, hp_r_wi, hp_n_wl, hp_k_wl, hp_r_wl, zq_rf, kx_211, kx_212, kx_221, kx_222, kx_223, kx_224, kx_225, kx_226, kx_227, kx_228, kx_229, rx_211_0, rx_211_21, rx_211_22, rx_211_23, rx_211_24, rx_211_25, rx_211_26, rx_211_32, rx_211_33, rx_211_34, hz, hy]) (by simp +decide only [S.n, S.k, S.r, hp_n_wi, hp_k_wi, hp_r_wi, hp_n_wl, hp_k_wl, hp_r_wl, zq_rf, kx_211, kx_212, kx_221, kx_222, kx_223, kx_224, kx_225, kx_226, kx_227, kx_228, kx_229, rx_211_0, rx_211_21, rx_211_22, rx_211_23, rx_211_24, rx_211_25, rx_211_26, rx_211_32, rx_211_33, rx_211_34, hz, hy])]; exact ⟨_, rfl⟩
      obtain ⟨v, ev⟩ := m2
      rw [ev, b213_180 (by simp +decide only [S.n, S.k, S.r, hp_n_wi, hp_k_wi, hp_r_wi, hp_n_wl, hp_k_wl, hp_r_wl, zq_rf, kx_211, kx_212, kx_221, kx_222, kx_223, kx_224, kx_225, kx_226, kx_227, kx_228, kx_229, rx_211_0, rx_211_21, rx_211_22, rx_211_23, rx_211_24, rx_211_25, rx_211_26, rx_211_32, rx_211_33, rx_211_34, hz, hy]) (by simp +decide only [S.n, S.k, S.r, hp_n_wi, hp_k_wi, hp_r_wi, hp_n_wl, hp_k_wl, hp_r_wl, zq_rf, kx_211, kx_212, kx_221, kx_222, kx_223, kx_224, kx_225, kx_226, kx_227, kx_228, kx_229, rx_211_0, rx_211_21, rx_211_22, rx_211_23, rx_211_24, rx_211_25, rx_211_26, rx_211_32, rx_211_33, rx_211_34, hz, hy]) (by simp +decide only [S.n, S.k, S.r, hp_n_wi, hp_k_wi, hp_r_wi, hp_n_wl, hp_k_wl, hp_r_wl, zq_rf, kx_211, kx_212, kx_221, kx_222, kx_223, kx_224, kx_225, kx_226, kx_227, kx_228, kx_229, rx_211_0, rx_211_21, rx_211_22, rx_211_23, rx_211_24, rx_211_25, rx_211_26, rx_211_32, rx_211_33, rx_211_34, hz, hy]) (by simp +decide only [S.n, S.k, S.r, hp_n_wi, hp_k_wi, hp_r_wi, hp_n_wl, hp_k_wl, hp_r_wl, zq_rf, kx_211, kx_212, kx_221, kx_222, kx_223, kx_224, kx_225, kx_226, kx_227, kx_228, kx_229, rx_211_0, rx_211_21, rx_211_22, rx_211_23, rx_211_24, rx_211_25, rx_211_26, rx_211_32, rx_211_33, rx_211_34, hz, hy]) (by simp +decide only [S.n, S.k, S.r, hp_n_wi, hp_k_wi, hp_r_wi, hp_n_wl, hp_k_wl, hp_r_wl, zq_rf, kx_211, kx_212, kx_221, kx_222, kx_223, kx_224, kx_225, kx_226, kx_227, kx_228, kx_229, rx_211_0, rx_211_21, rx_211_22, rx_211_23, rx_211_24, rx_211_25, rx_211_26, rx_211_32, rx_211_33, rx_211_34, hz, hy]) (by simp +decide only [S.n, S.k, S.r, hp_n_wi, hp_k_wi, hp_r_wi, hp_n_wl, hp_k_wl, hp_r_wl, zq_rf, kx_211, kx_212, kx_221, kx_222, kx_223, kx_224, kx_225, kx_226, kx_227, kx_228, kx_229, rx_211_0, rx_211_21, rx_211_22, rx_211_23, rx_211_24, rx_211_25, rx_211_26, rx_211_32, rx_211_33, rx_211_34, hz, hy]), r32, zq_rf, b213_188 (by simp +decide only [S.n, S.k, S.r, hp_n_wi, hp_k_wi, hp_r_wi, hp_n_wl, hp_k_wl, hp_r_wl, zq_rf, kx_211, kx_212, kx_221, kx_222, kx_223, kx_224, kx_225, kx_226, kx_227, kx_228, kx_229, rx_211_0, rx_211_21, rx_211_22, rx_211_23, rx_211_24, rx_211_25, rx_211_26, rx_211_32, rx_211_33, rx_211_34, hz, hy]) (by simp +decide only [S.n, S.k, S.r, hp_n_wi, hp_k_wi, hp_r_wi, hp_n_wl, hp_k_wl, hp_r_wl, zq_rf, kx_211, kx_212, kx_221, kx_222, kx_223, kx_224, kx_225, kx_226, kx_227, kx_228, kx_229, rx_211_0, rx_211_21, rx_211_22, rx_211_23, rx_211_24, rx_211_25, rx_211_26, rx_211_32, rx_211_33, rx_211_34, hz, hy]) (by simp +decide only [S.n, S.k, S.r, hp_n_wi, hp_k_wi, hp_r_wi, hp_n_wl, hp_k_wl, hp_r_wl, zq_rf, kx_211, kx_212, kx_221, kx_222, kx_223, kx_224, kx_225, kx_226, kx_227, kx_228, kx_229, rx_211_0, rx_211_21, rx_211_22, rx_211_23, rx_211_24, rx_211_25, rx_211_26, rx_211_32, rx_211_33, rx_211_34, hz, hy]) (by simp +decide only [S.n, S.k, S.r, hp_n_wi, hp_k_wi, hp_r_wi, hp_n_wl, hp_k_wl, hp_r_wl, zq_rf, kx_211, kx_212, kx_221, kx_222, kx_223, kx_224, kx_225, kx_226, kx_227, kx_228, kx_229, rx_211_0, rx_211_21, rx_211_22, rx_211_23, rx_211_24, rx_211_25, rx_211_26, rx_211_32, rx_211_33, rx_211_34, hz, hy]) (by simp +decide only [S.n, S.k, S.r, hp_n_wi, hp_k_wi, hp_r_wi, hp_n_wl, hp_k_wl, hp_r_wl, zq_rf, kx_211, kx_212, kx_221, kx_222, kx_223, kx_224, kx_225, kx_226, kx_227, kx_228, kx_229, rx_211_0, rx_211_21, rx_211_22, rx_211_23, rx_211_24, rx_211_25, rx_211_26, rx_211_32, rx_211_33, rx_211_34, hz, hy]) (by simp +decide only [S.n, S.k, S.r, hp_n_wi, hp_k_wi, hp_r_wi, hp_n_wl, hp_k_wl, hp_r_wl, zq_rf, kx_211, kx_212, kx_221, kx_222, kx_223, kx_224, kx_225, kx_226, kx_227, kx_228, kx_229, rx_211_0, rx_211_21, rx_211_22, rx_211_23, rx_211_24, rx_211_25, rx_211_26, rx_211_32, rx_211_33, rx_211_34, hz, hy]) (by simp +decide only [S.n, S.k, S.r, hp_n_wi, hp_k_wi, hp_r_wi, hp_n_wl, hp_k_wl, hp_r_wl, zq_rf, kx_211, kx_212, kx_221, kx_222, kx_223, kx_224, kx_225, kx_226, kx_227, kx_228, kx_229, rx_211_0, rx_211_21, rx_211_22, rx_211_23, rx_211_24, rx_211_25, rx_211_26, rx_211_32, rx_211_33, rx_211_34, hz, hy]) (by simp +decide only [S.n, S.k, S.r, hp_n_wi, hp_k_wi, hp_r_wi, hp_n_wl, hp_k_wl, hp_r_wl, zq_rf, kx_211, kx_212, kx_221, kx_222, kx_223, kx_224, kx_225, kx_226, kx_227, kx_228, kx_229, rx_211_0, rx_211_21, rx_211_22, rx_211_23, rx_211_24, rx_211_25, rx_211_26, rx_211_32, rx_211_33, rx_211_34, hz, hy]) (by simp +decide only [S.n, S.k, S.r, hp_n_wi, hp_k_wi, hp_r_wi, hp_n_wl, hp_k_wl, hp_r_wl, zq_rf, kx_211, kx_212, kx_221, kx_222, kx_223, kx_224, kx_225, kx_226, kx_227, kx_228, kx_229, rx_211_0, rx_211_21, rx_211_22, rx_211_23, rx_211_24, rx_211_25, rx_211_26, rx_211_32, rx_211_33, rx_211_34, hz, hy])]
      have T2 : ∀ {v1 v2 : Int32} {k1 k2 : Nat}, Tq h (zh_wi (zh_wi h 228 k1 v1) 227 k2 v2) := fun {v1 v2 k1 k2} => (Tq.wi S (by omega)).trans (Tq.wi (S.wi _ _ _) (by omega))
      rw [hp_r_wi, r34, zq_rf, b213_199 (by simp +decide only [S.n, S.k, S.r, hp_n_wi, hp_k_wi, hp_r_wi, hp_n_wl, hp_k_wl, hp_r_wl, zq_rf, kx_211, kx_212, kx_221, kx_222, kx_223, kx_224, kx_225, kx_226, kx_227, kx_228, kx_229, rx_211_0, rx_211_21, rx_211_22, rx_211_23, rx_211_24, rx_211_25, rx_211_26, rx_211_32, rx_211_33, rx_211_34, hz, hy]) (by simp +decide only [S.n, S.k, S.r, hp_n_wi, hp_k_wi, hp_r_wi, hp_n_wl, hp_k_wl, hp_r_wl, zq_rf, kx_211, kx_212, kx_221, kx_222, kx_223, kx_224, kx_225, kx_226, kx_227, kx_228, kx_229, rx_211_0, rx_211_21, rx_211_22, rx_211_23, rx_211_24, rx_211_25, rx_211_26, rx_211_32, rx_211_33, rx_211_34, hz, hy]) (by simp +decide only [S.n, S.k, S.r, hp_n_wi, hp_k_wi, hp_r_wi, hp_n_wl, hp_k_wl, hp_r_wl, zq_rf, kx_211, kx_212, kx_221, kx_222, kx_223, kx_224, kx_225, kx_226, kx_227, kx_228, kx_229, rx_211_0, rx_211_21, rx_211_22, rx_211_23, rx_211_24, rx_211_25, rx_211_26, rx_211_32, rx_211_33, rx_211_34, hz, hy]) (by simp +decide only [S.n, S.k, S.r, hp_n_wi, hp_k_wi, hp_r_wi, hp_n_wl, hp_k_wl, hp_r_wl, zq_rf, kx_211, kx_212, kx_221, kx_222, kx_223, kx_224, kx_225, kx_226, kx_227, kx_228, kx_229, rx_211_0, rx_211_21, rx_211_22, rx_211_23, rx_211_24, rx_211_25, rx_211_26, rx_211_32, rx_211_33, rx_211_34, hz, hy]) (by simp +decide only [S.n, S.k, S.r, hp_n_wi, hp_k_wi, hp_r_wi, hp_n_wl, hp_k_wl, hp_r_wl, zq_rf, kx_211, kx_212, kx_221, kx_222, kx_223, kx_224, kx_225, kx_226, kx_227, kx_228, kx_229, rx_211_0, rx_211_21, rx_211_22, rx_211_23, rx_211_24, rx_211_25, rx_211_26, rx_211_32, rx_211_33, rx_211_34, hz, hy]) (by simp +decide only [S.n, S.k, S.r, hp_n_wi, hp_k_wi, hp_r_wi, hp_n_wl, hp_k_wl, hp_r_wl, zq_rf, kx_211, kx_212, kx_221, kx_222, kx_223, kx_224, kx_225, kx_226, kx_227, kx_228, kx_229, rx_211_0, rx_211_21, rx_211_22, rx_211_23, rx_211_24, rx_211_25, rx_211_26, rx_211_32, rx_211_33, rx_211_34, hz, hy]) (by simp +decide only [S.n, S.k, S.r, hp_n_wi, hp_k_wi, hp_r_wi, hp_n_wl, hp_k_wl, hp_r_wl, zq_rf, kx_211, kx_212, kx_221, kx_222, kx_223, kx_224, kx_225, kx_226, kx_227, kx_228, kx_229, rx_211_0, rx_211_21, rx_211_22, rx_211_23, rx_211_24, rx_211_25, rx_211_26, rx_211_32, rx_211_33, rx_211_34, hz, hy]) (by simp +decide only [S.n, S.k, S.r, hp_n_wi, hp_k_wi, hp_r_wi, hp_n_wl, hp_k_wl, hp_r_wl, zq_rf, kx_211, kx_212, kx_221, kx_222, kx_223, kx_224, kx_225, kx_226, kx_227, kx_228, kx_229, rx_211_0, rx_211_21, rx_211_22, rx_211_23, rx_211_24, rx_211_25, rx_211_26, rx_211_32, rx_211_33, rx_211_34, hz, hy]) (by simp +decide only [S.n, S.k, S.r, hp_n_wi, hp_k_wi, hp_r_wi, hp_n_wl, hp_k_wl, hp_r_wl, zq_rf, kx_211, kx_212, kx_221, kx_222, kx_223, kx_224, kx_225, kx_226, kx_227, kx_228, kx_229, rx_211_0, rx_211_21, rx_211_22, rx_211_23, rx_211_24, rx_211_25, rx_211_26, rx_211_32, rx_211_33, rx_211_34, hz, hy]) (by simp +decide only [S.n, S.k, S.r, hp_n_wi, hp_k_wi, hp_r_wi, hp_n_wl, hp_k_wl, hp_r_wl, zq_rf, kx_211, kx_212, kx_221, kx_222, kx_223, kx_224, kx_225, kx_226, kx_227, kx_228, kx_229, rx_211_0, rx_211_21, rx_211_22, rx_211_23, rx_211_24, rx_211_25, rx_211_26, rx_211_32, rx_211_33, rx_211_34, hz, hy]) (by simp +decide only [S.n, S.k, S.r, hp_n_wi, hp_k_wi, hp_r_wi, hp_n_wl, hp_k_wl, hp_r_wl, zq_rf, kx_211, kx_212, kx_221, kx_222, kx_223, kx_224, kx_225, kx_226, kx_227, kx_228, kx_229, rx_211_0, rx_211_21, rx_211_22, rx_211_23, rx_211_24, rx_211_25, rx_211_26, rx_211_32, rx_211_33, rx_211_34, hz, hy]) (by simp +decide only [S.n, S.k, S.r, hp_n_wi, hp_k_wi, hp_r_wi, hp_n_wl, hp_k_wl, hp_r_wl, zq_rf, kx_211, kx_212, kx_221, kx_222, kx_223, kx_224, kx_225, kx_226, kx_227, kx_228, kx_229, rx_211_0, rx_211_21, rx_211_22, rx_211_23, rx_211_24, rx_211_25, rx_211_26, rx_211_32, rx_211_33, rx_211_34, hz, hy])]
      have m3 : ∀ h3, Sh h3 → zh_i h3 212 = zh_i h 212 → ∃ y' : Int32, (¬ y' = 0 ↔ ¬ x3 = 0 ∨ UN h c) ∧ (if x3 = 0 then zv 2 213 212 [.ref 211, .int (nI d), .int y, .int x3, .int (nI c), .int (nI k5), .int (nI a), .int (nI (2 * c + a))] [] h3 else zv 2 213 243 [.ref 211, .int (nI d), .int y, .int x3, .int (nI c), .int (nI k5), .int (nI a), .int (nI (2 * c + a))] [] h3) = zv 2 213 248 [.ref 211, .int (nI d), .int y, .int x3, .int (nI c), .int (nI k5), .int (nI a), .int (nI (2 * c + a))] [.int y'] h3 := fun h3 S3 e212 => by
        have aE : zh_i h 212 (315 + 24 * c + 4) = nI a := ean.symm
        by_cases q : x3 = 0
        · rw [if_pos q, b213_212]
          by_cases q5 : k5 = 5
          · rw [if_pos (show nI k5 = 5 by rw [q5]; rfl), b213_218 (S_g0 S3) (S_g1 S3), r_oc1 S3 hc, e212]
            simp only [Option.bind_some, Option.toList_some, Option.toList_none, List.cons_append, List.nil_append]
            rw [b213_225]
            by_cases q1 : zh_i h 212 (315 + 24 * c + 1) = 0
            · rw [if_pos q1, b213_228 (S_g0 S3) (S_g1 S3), r_oc5 S3 hc, e212]
              simp only [Option.bind_some, Option.toList_some, Option.toList_none, List.cons_append, List.nil_append]
              rw [b213_235]
              have bq : ((zh_i h 212 (315 + 24 * c + 5) >>> (nI a &&& 31)) &&& 1) = 0 ↔ UN h c := by
                unfold UN
                rw [est, aE]
                have : a = 0 ∨ a = 1 := by omega
                rcases this with rfl | rfl
                · rw [bit_0]
                  exact ⟨fun w => ⟨by rw [q5]; rfl, q1, Or.inl ⟨rfl, w⟩⟩, fun w => w.2.2.elim (fun u => u.2) (fun u => absurd u.1 (by decide))⟩
                · rw [bit_1]
                  exact ⟨fun w => ⟨by rw [q5]; rfl, q1, Or.inr ⟨rfl, w⟩⟩, fun w => w.2.2.elim (fun u => absurd u.1 (by decide)) (fun u => u.2)⟩
              by_cases q2 : ((zh_i h 212 (315 + 24 * c + 5) >>> (nI a &&& 31)) &&& 1) = 0
              · rw [if_pos q2, b213_243]; exact ⟨1, ⟨fun _ => Or.inr (bq.mp q2), fun _ => by decide⟩, rfl⟩
              · rw [if_neg q2, b213_247]; exact ⟨0, ⟨fun w => absurd rfl w, fun w => w.elim (fun u => absurd q u) (fun u => absurd (bq.mpr u) q2)⟩, rfl⟩
            · rw [if_neg q1, b213_247]; exact ⟨0, ⟨fun w => absurd rfl w, fun w => w.elim (fun u => absurd q u) (fun u => absurd u.2.1 q1)⟩, rfl⟩
          · have n5 : ¬ nI k5 = 5 := fun w => q5 ((nI_eq' (b := 5) (by omega) (by decide)).mp w)
            rw [if_neg n5, b213_247]; exact ⟨0, ⟨fun w => absurd rfl w, fun w => w.elim (fun u => absurd q u) (fun u => absurd (by rw [← est]; exact u.1) n5)⟩, rfl⟩
        · rw [if_neg q, b213_243]; exact ⟨1, ⟨fun _ => Or.inl q, fun _ => by decide⟩, rfl⟩
      have T3 : ∀ {v1 v2 : Int32} {v3 : Int64} {k1 k2 k3 : Nat}, Tq h (zh_wl (zh_wi (zh_wi h 228 k1 v1) 227 k2 v2) 229 k3 v3) := fun {v1 v2 v3 k1 k2 k3} => T2.trans (Tq.wl ((S.wi _ _ _).wi _ _ _))
      have m4 : ∀ h3, Tq h h3 → zh_i h3 212 = zh_i h 212 → (∀ j, 27 ≤ j → zh_i h3 211 j = zh_i h 211 j) → ∃ y2 y3 v5 v6 v7 h', (if x3 = 0 then zv 2 213 212 [.ref 211, .int (nI d), .int y, .int x3, .int (nI c), .int (nI k5), .int (nI a), .int (nI (2 * c + a))] [] h3 else zv 2 213 243 [.ref 211, .int (nI d), .int y, .int x3, .int (nI c), .int (nI k5), .int (nI a), .int (nI (2 * c + a))] [] h3) = zv 2 213 81 [.ref 211, .int (nI d), .int y2, .int y3, .int (nI (c + 1)), v5, v6, v7] [] h' ∧ Tq h h' ∧ (∀ j, 27 ≤ j → zh_i h' 211 j = zh_i h 211 j) ∧ (¬ y2 = 0 ↔ ¬ x2 = 0 ∧ (k5 = 0 ∨ k5 = 5)) ∧ (¬ y3 = 0 ↔ ¬ x3 = 0 ∨ UN h c) := fun h3 T e212 e211 => by
        obtain ⟨y', hy3, ey'⟩ := m3 h3 T.1 e212
        rw [ey', b213_248, b213_249, nI_s]
        exact ⟨_, _, _, _, _, _, rfl, T, e211, hy2, hy3⟩
      exact m4 _ T3 (funext (fun j => by rw [hp_i_wl, hp_i_wi, if_neg (by omega), hp_i_wi, if_neg (by omega)])) (fun j _ => by rw [hp_i_wl, hp_i_wi, if_neg (by omega), hp_i_wi, if_neg (by omega)])
    · rw [c_iz hx]
      simp only [Option.bind_some, Option.toList_some, Option.toList_none, List.cons_append, List.nil_append]
      rw [b213_136, if_pos rfl, b213_249, nI_s]
      exact ⟨_, _, _, _, _, h, rfl, Tq.refl S, fun _ _ => rfl, hy2, ⟨Or.inl, fun w => w.elim id (fun u => by
        have : an = nI 0 ∨ an = nI 1 := by
          rcases u.2.2 with ⟨z, -⟩ | ⟨z, -⟩
          · exact Or.inl (ean.trans z)
          · exact Or.inr (ean.trans z)
        rcases this with z | z
        · rw [z] at hx; exact absurd (a01 (by decide)) hx
        · rw [z] at hx; exact absurd (a01 (by decide)) hx)⟩⟩
/-- the reference's row's end, its sums -/
theorem u_r5 (S : Sh h) {d : Nat} (hd : d < 8) (hst : ∀ c, c < 3 → ∃ k, k ≤ 5 ∧ zh_i h 212 (315 + 24 * c) = nI k) {u2 u3 u4 u5 u6 u7 : Value} : ∃ (dn hu : Bool) (h' : zi_Hp), zv 2 213 0 [.ref 211, .int (nI d), u2, u3, u4, u5, u6, u7] [] h = some (none, h') ∧ Tq h h' ∧ (dn = true ↔ ∀ c, c < 3 → (zh_i h 212 (315 + 24 * c) = 0 ∨ zh_i h 212 (315 + 24 * c) = 5)) ∧ (hu = true ↔ ∃ c, c < 3 ∧ UN h c) ∧ zh_i h' 211 27 = zh_i h 211 27 + 1 ∧ zh_i h' 211 28 = (if dn = true then zh_i h 211 28 + 1 else zh_i h 211 28) ∧ zh_i h' 211 29 = (if zh_i h 211 29 < zh_i h 212 312 then zh_i h 212 312 else zh_i h 211 29) ∧ zh_i h' 211 30 = (if zh_i h 211 30 < zh_i h 225 d then zh_i h 225 d else zh_i h 211 30) ∧ zh_i h' 211 31 = (if hu = true then zh_i h 211 31 + 1 else zh_i h 211 31) := by
  have hz : ¬ (nI d < 0 ∨ 8 ≤ (nI d).toNatClampNeg) := zj_n (by omega) (by decide)
  have hy : ¬ ((312 : Int32) < 0 ∨ 387 ≤ (312 : Int32).toNatClampNeg) := by decide
  have r0 : zh_r h 211 0 = .ref 212 := by rw [S.r, rx_211_0]
  have r25 : zh_r h 211 25 = .ref 225 := by rw [S.r, rx_211_25]
  have nd : (nI d).toNatClampNeg = d := nI_clamp (by omega)
  have n312 : (312 : Int32).toNatClampNeg = 312 := rfl
  obtain ⟨v29, ev29⟩ : ∃ v, v = (if zh_i h 211 29 < zh_i h 212 312 then zh_i h 212 312 else zh_i h 211 29) := ⟨_, rfl⟩
  obtain ⟨v30, ev30⟩ : ∃ v, v = (if zh_i h 211 30 < zh_i h 225 d then zh_i h 225 d else zh_i h 211 30) := ⟨_, rfl⟩
  obtain ⟨h1, eh1⟩ : ∃ h1, h1 = zh_wi h 211 27 (zh_i h 211 27 + 1) := ⟨_, rfl⟩
  obtain ⟨h2, eh2⟩ : ∃ h2, h2 = zh_wi h1 211 29 v29 := ⟨_, rfl⟩
  obtain ⟨h3, eh3⟩ : ∃ h3, h3 = zh_wi h2 211 30 v30 := ⟨_, rfl⟩
  have S1 : Sh h1 := by rw [eh1]; exact S.wi _ _ _
  have S2 : Sh h2 := by rw [eh2]; exact S1.wi _ _ _
  have S3 : Sh h3 := by rw [eh3]; exact S2.wi _ _ _
  have Q3 : Tq h h3 := by rw [eh3, eh2, eh1]; exact ((Tq.wi S (by omega)).trans (Tq.wi (S.wi _ _ _) (by omega))).trans (Tq.wi ((S.wi _ _ _).wi _ _ _) (by omega))
  have start : zv 2 213 0 [.ref 211, .int (nI d), u2, u3, u4, u5, u6, u7] [] h = zv 2 213 81 [.ref 211, .int (nI d), .int 1, .int 0, .int 0, u5, u6, u7] [] h3 := by
    rw [b213_0 (by simp +decide only [S.n, S.k, S.r, hp_n_wi, hp_k_wi, hp_r_wi, hp_n_wl, hp_k_wl, hp_r_wl, zq_rf, kx_211, kx_212, kx_221, kx_222, kx_223, kx_224, kx_225, kx_226, kx_227, kx_228, kx_229, rx_211_0, rx_211_21, rx_211_22, rx_211_23, rx_211_24, rx_211_25, rx_211_26, rx_211_32, rx_211_33, rx_211_34, hz, hy]) (by simp +decide only [S.n, S.k, S.r, hp_n_wi, hp_k_wi, hp_r_wi, hp_n_wl, hp_k_wl, hp_r_wl, zq_rf, kx_211, kx_212, kx_221, kx_222, kx_223, kx_224, kx_225, kx_226, kx_227, kx_228, kx_229, rx_211_0, rx_211_21, rx_211_22, rx_211_23, rx_211_24, rx_211_25, rx_211_26, rx_211_32, rx_211_33, rx_211_34, hz, hy]) (by simp +decide only [S.n, S.k, S.r, hp_n_wi, hp_k_wi, hp_r_wi, hp_n_wl, hp_k_wl, hp_r_wl, zq_rf, kx_211, kx_212, kx_221, kx_222, kx_223, kx_224, kx_225, kx_226, kx_227, kx_228, kx_229, rx_211_0, rx_211_21, rx_211_22, rx_211_23, rx_211_24, rx_211_25, rx_211_26, rx_211_32, rx_211_33, rx_211_34, hz, hy]), r0, zq_rf, ← eh1]
    have p1 : zh_i h1 211 29 = zh_i h 211 29 := by rw [eh1, hp_i_wi, if_neg (by decide)]
    have p2 : zh_i h1 212 312 = zh_i h 212 312 := by rw [eh1, hp_i_wi, if_neg (by decide)]
    have p3 : zh_i h2 211 30 = zh_i h 211 30 := by rw [eh2, hp_i_wi, if_neg (by decide), eh1, hp_i_wi, if_neg (by decide)]
    have p4 : zh_i h2 225 d = zh_i h 225 d := by rw [eh2, hp_i_wi, if_neg (by omega), eh1, hp_i_wi, if_neg (by omega)]
    have a1 : zv 2 213 22 [.ref 211, .int (nI d), .int 1, .int 0, u4, u5, u6, u7] [.int 312, .ref 212, .ref 211] h1 = zv 2 213 45 [.ref 211, .int (nI d), .int 1, .int 0, u4, u5, u6, u7] [.int v29, .ref 211] h1 := by
      have S := S1
      have r0 : zh_r h1 211 0 = .ref 212 := by rw [S.r, rx_211_0]
      rw [b213_22 (by simp +decide only [S.n, S.k, S.r, hp_n_wi, hp_k_wi, hp_r_wi, hp_n_wl, hp_k_wl, hp_r_wl, zq_rf, kx_211, kx_212, kx_221, kx_222, kx_223, kx_224, kx_225, kx_226, kx_227, kx_228, kx_229, rx_211_0, rx_211_21, rx_211_22, rx_211_23, rx_211_24, rx_211_25, rx_211_26, rx_211_32, rx_211_33, rx_211_34, hz, hy]) (by simp +decide only [S.n, S.k, S.r, hp_n_wi, hp_k_wi, hp_r_wi, hp_n_wl, hp_k_wl, hp_r_wl, zq_rf, kx_211, kx_212, kx_221, kx_222, kx_223, kx_224, kx_225, kx_226, kx_227, kx_228, kx_229, rx_211_0, rx_211_21, rx_211_22, rx_211_23, rx_211_24, rx_211_25, rx_211_26, rx_211_32, rx_211_33, rx_211_34, hz, hy]) (by simp +decide only [S.n, S.k, S.r, hp_n_wi, hp_k_wi, hp_r_wi, hp_n_wl, hp_k_wl, hp_r_wl, zq_rf, kx_211, kx_212, kx_221, kx_222, kx_223, kx_224, kx_225, kx_226, kx_227, kx_228, kx_229, rx_211_0, rx_211_21, rx_211_22, rx_211_23, rx_211_24, rx_211_25, rx_211_26, rx_211_32, rx_211_33, rx_211_34, hz, hy]) (by simp +decide only [S.n, S.k, S.r, hp_n_wi, hp_k_wi, hp_r_wi, hp_n_wl, hp_k_wl, hp_r_wl, zq_rf, kx_211, kx_212, kx_221, kx_222, kx_223, kx_224, kx_225, kx_226, kx_227, kx_228, kx_229, rx_211_0, rx_211_21, rx_211_22, rx_211_23, rx_211_24, rx_211_25, rx_211_26, rx_211_32, rx_211_33, rx_211_34, hz, hy]) (by simp +decide only [S.n, S.k, S.r, hp_n_wi, hp_k_wi, hp_r_wi, hp_n_wl, hp_k_wl, hp_r_wl, zq_rf, kx_211, kx_212, kx_221, kx_222, kx_223, kx_224, kx_225, kx_226, kx_227, kx_228, kx_229, rx_211_0, rx_211_21, rx_211_22, rx_211_23, rx_211_24, rx_211_25, rx_211_26, rx_211_32, rx_211_33, rx_211_34, hz, hy]), n312, p1, p2, ev29]
      split
      · rw [b213_30 (by simp +decide only [S.n, S.k, S.r, hp_n_wi, hp_k_wi, hp_r_wi, hp_n_wl, hp_k_wl, hp_r_wl, zq_rf, kx_211, kx_212, kx_221, kx_222, kx_223, kx_224, kx_225, kx_226, kx_227, kx_228, kx_229, rx_211_0, rx_211_21, rx_211_22, rx_211_23, rx_211_24, rx_211_25, rx_211_26, rx_211_32, rx_211_33, rx_211_34, hz, hy]) (by simp +decide only [S.n, S.k, S.r, hp_n_wi, hp_k_wi, hp_r_wi, hp_n_wl, hp_k_wl, hp_r_wl, zq_rf, kx_211, kx_212, kx_221, kx_222, kx_223, kx_224, kx_225, kx_226, kx_227, kx_228, kx_229, rx_211_0, rx_211_21, rx_211_22, rx_211_23, rx_211_24, rx_211_25, rx_211_26, rx_211_32, rx_211_33, rx_211_34, hz, hy]) (by simp +decide only [S.n, S.k, S.r, hp_n_wi, hp_k_wi, hp_r_wi, hp_n_wl, hp_k_wl, hp_r_wl, zq_rf, kx_211, kx_212, kx_221, kx_222, kx_223, kx_224, kx_225, kx_226, kx_227, kx_228, kx_229, rx_211_0, rx_211_21, rx_211_22, rx_211_23, rx_211_24, rx_211_25, rx_211_26, rx_211_32, rx_211_33, rx_211_34, hz, hy]) (by simp +decide only [S.n, S.k, S.r, hp_n_wi, hp_k_wi, hp_r_wi, hp_n_wl, hp_k_wl, hp_r_wl, zq_rf, kx_211, kx_212, kx_221, kx_222, kx_223, kx_224, kx_225, kx_226, kx_227, kx_228, kx_229, rx_211_0, rx_211_21, rx_211_22, rx_211_23, rx_211_24, rx_211_25, rx_211_26, rx_211_32, rx_211_33, rx_211_34, hz, hy]) (by simp +decide only [S.n, S.k, S.r, hp_n_wi, hp_k_wi, hp_r_wi, hp_n_wl, hp_k_wl, hp_r_wl, zq_rf, kx_211, kx_212, kx_221, kx_222, kx_223, kx_224, kx_225, kx_226, kx_227, kx_228, kx_229, rx_211_0, rx_211_21, rx_211_22, rx_211_23, rx_211_24, rx_211_25, rx_211_26, rx_211_32, rx_211_33, rx_211_34, hz, hy]) (by simp +decide only [S.n, S.k, S.r, hp_n_wi, hp_k_wi, hp_r_wi, hp_n_wl, hp_k_wl, hp_r_wl, zq_rf, kx_211, kx_212, kx_221, kx_222, kx_223, kx_224, kx_225, kx_226, kx_227, kx_228, kx_229, rx_211_0, rx_211_21, rx_211_22, rx_211_23, rx_211_24, rx_211_25, rx_211_26, rx_211_32, rx_211_33, rx_211_34, hz, hy]), r0, zq_rf, p2]
      · rw [b213_41 (by simp +decide only [S.n, S.k, S.r, hp_n_wi, hp_k_wi, hp_r_wi, hp_n_wl, hp_k_wl, hp_r_wl, zq_rf, kx_211, kx_212, kx_221, kx_222, kx_223, kx_224, kx_225, kx_226, kx_227, kx_228, kx_229, rx_211_0, rx_211_21, rx_211_22, rx_211_23, rx_211_24, rx_211_25, rx_211_26, rx_211_32, rx_211_33, rx_211_34, hz, hy]) (by simp +decide only [S.n, S.k, S.r, hp_n_wi, hp_k_wi, hp_r_wi, hp_n_wl, hp_k_wl, hp_r_wl, zq_rf, kx_211, kx_212, kx_221, kx_222, kx_223, kx_224, kx_225, kx_226, kx_227, kx_228, kx_229, rx_211_0, rx_211_21, rx_211_22, rx_211_23, rx_211_24, rx_211_25, rx_211_26, rx_211_32, rx_211_33, rx_211_34, hz, hy]), p1]
    have a2 : zv 2 213 45 [.ref 211, .int (nI d), .int 1, .int 0, u4, u5, u6, u7] [.int v29, .ref 211] h1 = zv 2 213 54 [.ref 211, .int (nI d), .int 1, .int 0, u4, u5, u6, u7] [.int (nI d), .ref 225, .ref 211] h2 := by
      have S := S1
      have r25 : zh_r h1 211 25 = .ref 225 := by rw [S.r, rx_211_25]
      rw [b213_45 (by simp +decide only [S.n, S.k, S.r, hp_n_wi, hp_k_wi, hp_r_wi, hp_n_wl, hp_k_wl, hp_r_wl, zq_rf, kx_211, kx_212, kx_221, kx_222, kx_223, kx_224, kx_225, kx_226, kx_227, kx_228, kx_229, rx_211_0, rx_211_21, rx_211_22, rx_211_23, rx_211_24, rx_211_25, rx_211_26, rx_211_32, rx_211_33, rx_211_34, hz, hy]) (by simp +decide only [S.n, S.k, S.r, hp_n_wi, hp_k_wi, hp_r_wi, hp_n_wl, hp_k_wl, hp_r_wl, zq_rf, kx_211, kx_212, kx_221, kx_222, kx_223, kx_224, kx_225, kx_226, kx_227, kx_228, kx_229, rx_211_0, rx_211_21, rx_211_22, rx_211_23, rx_211_24, rx_211_25, rx_211_26, rx_211_32, rx_211_33, rx_211_34, hz, hy]) (by simp +decide only [S.n, S.k, S.r, hp_n_wi, hp_k_wi, hp_r_wi, hp_n_wl, hp_k_wl, hp_r_wl, zq_rf, kx_211, kx_212, kx_221, kx_222, kx_223, kx_224, kx_225, kx_226, kx_227, kx_228, kx_229, rx_211_0, rx_211_21, rx_211_22, rx_211_23, rx_211_24, rx_211_25, rx_211_26, rx_211_32, rx_211_33, rx_211_34, hz, hy]) (by simp +decide only [S.n, S.k, S.r, hp_n_wi, hp_k_wi, hp_r_wi, hp_n_wl, hp_k_wl, hp_r_wl, zq_rf, kx_211, kx_212, kx_221, kx_222, kx_223, kx_224, kx_225, kx_226, kx_227, kx_228, kx_229, rx_211_0, rx_211_21, rx_211_22, rx_211_23, rx_211_24, rx_211_25, rx_211_26, rx_211_32, rx_211_33, rx_211_34, hz, hy]) (by simp +decide only [S.n, S.k, S.r, hp_n_wi, hp_k_wi, hp_r_wi, hp_n_wl, hp_k_wl, hp_r_wl, zq_rf, kx_211, kx_212, kx_221, kx_222, kx_223, kx_224, kx_225, kx_226, kx_227, kx_228, kx_229, rx_211_0, rx_211_21, rx_211_22, rx_211_23, rx_211_24, rx_211_25, rx_211_26, rx_211_32, rx_211_33, rx_211_34, hz, hy]), r25, zq_rf, eh2]
    have a3 : zv 2 213 54 [.ref 211, .int (nI d), .int 1, .int 0, u4, u5, u6, u7] [.int (nI d), .ref 225, .ref 211] h2 = zv 2 213 75 [.ref 211, .int (nI d), .int 1, .int 0, u4, u5, u6, u7] [.int v30, .ref 211] h2 := by
      have S := S2
      have r25 : zh_r h2 211 25 = .ref 225 := by rw [S.r, rx_211_25]
      rw [b213_54 (by simp +decide only [S.n, S.k, S.r, hp_n_wi, hp_k_wi, hp_r_wi, hp_n_wl, hp_k_wl, hp_r_wl, zq_rf, kx_211, kx_212, kx_221, kx_222, kx_223, kx_224, kx_225, kx_226, kx_227, kx_228, kx_229, rx_211_0, rx_211_21, rx_211_22, rx_211_23, rx_211_24, rx_211_25, rx_211_26, rx_211_32, rx_211_33, rx_211_34, hz, hy]) (by simp +decide only [S.n, S.k, S.r, hp_n_wi, hp_k_wi, hp_r_wi, hp_n_wl, hp_k_wl, hp_r_wl, zq_rf, kx_211, kx_212, kx_221, kx_222, kx_223, kx_224, kx_225, kx_226, kx_227, kx_228, kx_229, rx_211_0, rx_211_21, rx_211_22, rx_211_23, rx_211_24, rx_211_25, rx_211_26, rx_211_32, rx_211_33, rx_211_34, hz, hy]) (by simp +decide only [S.n, S.k, S.r, hp_n_wi, hp_k_wi, hp_r_wi, hp_n_wl, hp_k_wl, hp_r_wl, zq_rf, kx_211, kx_212, kx_221, kx_222, kx_223, kx_224, kx_225, kx_226, kx_227, kx_228, kx_229, rx_211_0, rx_211_21, rx_211_22, rx_211_23, rx_211_24, rx_211_25, rx_211_26, rx_211_32, rx_211_33, rx_211_34, hz, hy]) (by simp +decide only [S.n, S.k, S.r, hp_n_wi, hp_k_wi, hp_r_wi, hp_n_wl, hp_k_wl, hp_r_wl, zq_rf, kx_211, kx_212, kx_221, kx_222, kx_223, kx_224, kx_225, kx_226, kx_227, kx_228, kx_229, rx_211_0, rx_211_21, rx_211_22, rx_211_23, rx_211_24, rx_211_25, rx_211_26, rx_211_32, rx_211_33, rx_211_34, hz, hy]) (by simp +decide only [S.n, S.k, S.r, hp_n_wi, hp_k_wi, hp_r_wi, hp_n_wl, hp_k_wl, hp_r_wl, zq_rf, kx_211, kx_212, kx_221, kx_222, kx_223, kx_224, kx_225, kx_226, kx_227, kx_228, kx_229, rx_211_0, rx_211_21, rx_211_22, rx_211_23, rx_211_24, rx_211_25, rx_211_26, rx_211_32, rx_211_33, rx_211_34, hz, hy]), nd, p3, p4, ev30]
      split
      · rw [b213_62 (by simp +decide only [S.n, S.k, S.r, hp_n_wi, hp_k_wi, hp_r_wi, hp_n_wl, hp_k_wl, hp_r_wl, zq_rf, kx_211, kx_212, kx_221, kx_222, kx_223, kx_224, kx_225, kx_226, kx_227, kx_228, kx_229, rx_211_0, rx_211_21, rx_211_22, rx_211_23, rx_211_24, rx_211_25, rx_211_26, rx_211_32, rx_211_33, rx_211_34, hz, hy]) (by simp +decide only [S.n, S.k, S.r, hp_n_wi, hp_k_wi, hp_r_wi, hp_n_wl, hp_k_wl, hp_r_wl, zq_rf, kx_211, kx_212, kx_221, kx_222, kx_223, kx_224, kx_225, kx_226, kx_227, kx_228, kx_229, rx_211_0, rx_211_21, rx_211_22, rx_211_23, rx_211_24, rx_211_25, rx_211_26, rx_211_32, rx_211_33, rx_211_34, hz, hy]) (by simp +decide only [S.n, S.k, S.r, hp_n_wi, hp_k_wi, hp_r_wi, hp_n_wl, hp_k_wl, hp_r_wl, zq_rf, kx_211, kx_212, kx_221, kx_222, kx_223, kx_224, kx_225, kx_226, kx_227, kx_228, kx_229, rx_211_0, rx_211_21, rx_211_22, rx_211_23, rx_211_24, rx_211_25, rx_211_26, rx_211_32, rx_211_33, rx_211_34, hz, hy]) (by simp +decide only [S.n, S.k, S.r, hp_n_wi, hp_k_wi, hp_r_wi, hp_n_wl, hp_k_wl, hp_r_wl, zq_rf, kx_211, kx_212, kx_221, kx_222, kx_223, kx_224, kx_225, kx_226, kx_227, kx_228, kx_229, rx_211_0, rx_211_21, rx_211_22, rx_211_23, rx_211_24, rx_211_25, rx_211_26, rx_211_32, rx_211_33, rx_211_34, hz, hy]) (by simp +decide only [S.n, S.k, S.r, hp_n_wi, hp_k_wi, hp_r_wi, hp_n_wl, hp_k_wl, hp_r_wl, zq_rf, kx_211, kx_212, kx_221, kx_222, kx_223, kx_224, kx_225, kx_226, kx_227, kx_228, kx_229, rx_211_0, rx_211_21, rx_211_22, rx_211_23, rx_211_24, rx_211_25, rx_211_26, rx_211_32, rx_211_33, rx_211_34, hz, hy]) (by simp +decide only [S.n, S.k, S.r, hp_n_wi, hp_k_wi, hp_r_wi, hp_n_wl, hp_k_wl, hp_r_wl, zq_rf, kx_211, kx_212, kx_221, kx_222, kx_223, kx_224, kx_225, kx_226, kx_227, kx_228, kx_229, rx_211_0, rx_211_21, rx_211_22, rx_211_23, rx_211_24, rx_211_25, rx_211_26, rx_211_32, rx_211_33, rx_211_34, hz, hy]), r25, zq_rf, nd, p4]
      · rw [b213_71 (by simp +decide only [S.n, S.k, S.r, hp_n_wi, hp_k_wi, hp_r_wi, hp_n_wl, hp_k_wl, hp_r_wl, zq_rf, kx_211, kx_212, kx_221, kx_222, kx_223, kx_224, kx_225, kx_226, kx_227, kx_228, kx_229, rx_211_0, rx_211_21, rx_211_22, rx_211_23, rx_211_24, rx_211_25, rx_211_26, rx_211_32, rx_211_33, rx_211_34, hz, hy]) (by simp +decide only [S.n, S.k, S.r, hp_n_wi, hp_k_wi, hp_r_wi, hp_n_wl, hp_k_wl, hp_r_wl, zq_rf, kx_211, kx_212, kx_221, kx_222, kx_223, kx_224, kx_225, kx_226, kx_227, kx_228, kx_229, rx_211_0, rx_211_21, rx_211_22, rx_211_23, rx_211_24, rx_211_25, rx_211_26, rx_211_32, rx_211_33, rx_211_34, hz, hy]), p3]
    have S := S2
    rw [a1, a2, a3, b213_75 (by simp +decide only [S.n, S.k, S.r, hp_n_wi, hp_k_wi, hp_r_wi, hp_n_wl, hp_k_wl, hp_r_wl, zq_rf, kx_211, kx_212, kx_221, kx_222, kx_223, kx_224, kx_225, kx_226, kx_227, kx_228, kx_229, rx_211_0, rx_211_21, rx_211_22, rx_211_23, rx_211_24, rx_211_25, rx_211_26, rx_211_32, rx_211_33, rx_211_34, hz, hy]) (by simp +decide only [S.n, S.k, S.r, hp_n_wi, hp_k_wi, hp_r_wi, hp_n_wl, hp_k_wl, hp_r_wl, zq_rf, kx_211, kx_212, kx_221, kx_222, kx_223, kx_224, kx_225, kx_226, kx_227, kx_228, kx_229, rx_211_0, rx_211_21, rx_211_22, rx_211_23, rx_211_24, rx_211_25, rx_211_26, rx_211_32, rx_211_33, rx_211_34, hz, hy]), ← eh3]
  have s3 : ∀ j, zh_i h3 212 j = zh_i h 212 j := fun j => Q3.2.2.1 _ _ (by decide) (by decide) (by omega)
  have un3 : ∀ {m : zi_Hp}, (∀ j, zh_i m 212 j = zh_i h 212 j) → ∀ c, UN m c ↔ UN h c := fun {m} e c => by unfold UN; rw [e, e, e, e]
  obtain ⟨k0, l0, g0⟩ := hst 0 (by decide)
  obtain ⟨k1, l1, g1⟩ := hst 1 (by decide)
  obtain ⟨k2, l2, g2⟩ := hst 2 (by decide)
  obtain ⟨y2, y3, v5, v6, v7, h4, e4, Q4, f4, x4, z4⟩ := re_t5 S3 hd (c := 0) (by decide) l0 (by rw [s3]; exact g0) (x2 := 1) (x3 := 0) (u5 := u5) (u6 := u6) (u7 := u7)
  have s4 : ∀ j, zh_i h4 212 j = zh_i h 212 j := fun j => (Q4.2.2.1 _ _ (by decide) (by decide) (by omega)).trans (s3 j)
  obtain ⟨z2, z3, w5, w6, w7, h5, e5, Q5, f5, x5, z5⟩ := re_t5 Q4.1 hd (c := 1) (by decide) l1 (by rw [s4]; exact g1) (x2 := y2) (x3 := y3) (u5 := v5) (u6 := v6) (u7 := v7)
  have s5 : ∀ j, zh_i h5 212 j = zh_i h 212 j := fun j => (Q5.2.2.1 _ _ (by decide) (by decide) (by omega)).trans (s4 j)
  obtain ⟨a2, a3, b5, b6, b7, h6, e6, Q6, f6, x6, z6⟩ := re_t5 Q5.1 hd (c := 2) (by decide) l2 (by rw [s5]; exact g2) (x2 := z2) (x3 := z3) (u5 := w5) (u6 := w6) (u7 := w7)
  rw [un3 s3] at z4
  rw [un3 s4] at z5
  rw [un3 s5] at z6
  have S6 := Q6.1
  have n5 : ∀ {k : Nat}, k ≤ 5 → ((k = 0 ∨ k = 5) ↔ (nI k = 0 ∨ nI k = 5)) := fun {k} hk => by
    rw [show (0 : Int32) = nI 0 from rfl, show (5 : Int32) = nI 5 from rfl, nI_eq' (by omega) (by decide), nI_eq' (by omega) (by decide)]
  have dq : (¬ a2 = 0) ↔ ∀ c, c < 3 → (zh_i h 212 (315 + 24 * c) = 0 ∨ zh_i h 212 (315 + 24 * c) = 5) := by
    rw [x6, x5, x4, n5 l0, n5 l1, n5 l2, ← g0, ← g1, ← g2]
    constructor
    · rintro ⟨⟨⟨-, q0⟩, q1⟩, q2⟩
      exact k3 q0 q1 q2
    · intro q
      exact ⟨⟨⟨by decide, q 0 (by decide)⟩, q 1 (by decide)⟩, q 2 (by decide)⟩
  have uq : (¬ a3 = 0) ↔ ∃ c, c < 3 ∧ UN h c := by
    rw [z6, z5, z4]
    constructor
    · rintro (((q | q) | q) | q)
      · exact absurd rfl q
      · exact ⟨0, by decide, q⟩
      · exact ⟨1, by decide, q⟩
      · exact ⟨2, by decide, q⟩
    · rintro ⟨c, hc, q⟩
      have : c = 0 ∨ c = 1 ∨ c = 2 := by omega
      rcases this with rfl | rfl | rfl
      · exact Or.inl (Or.inl (Or.inr q))
      · exact Or.inl (Or.inr q)
      · exact Or.inr q
  have w6 : ∀ j, 27 ≤ j → zh_i h6 211 j = zh_i h3 211 j := fun j hj => (f6 j hj).trans ((f5 j hj).trans (f4 j hj))
  have t27 : zh_i h3 211 27 = zh_i h 211 27 + 1 := by rw [eh3, hp_i_wi, if_neg (by decide), eh2, hp_i_wi, if_neg (by decide), eh1, hp_i_wi, if_pos ⟨rfl, rfl⟩]
  have t28 : zh_i h3 211 28 = zh_i h 211 28 := by rw [eh3, hp_i_wi, if_neg (by decide), eh2, hp_i_wi, if_neg (by decide), eh1, hp_i_wi, if_neg (by decide)]
  have t29 : zh_i h3 211 29 = v29 := by rw [eh3, hp_i_wi, if_neg (by decide), eh2, hp_i_wi, if_pos ⟨rfl, rfl⟩]
  have t30 : zh_i h3 211 30 = v30 := by rw [eh3, hp_i_wi, if_pos ⟨rfl, rfl⟩]
  have t31 : zh_i h3 211 31 = zh_i h 211 31 := by rw [eh3, hp_i_wi, if_neg (by decide), eh2, hp_i_wi, if_neg (by decide), eh1, hp_i_wi, if_neg (by decide)]
  refine ⟨decide (¬ a2 = 0), decide (¬ a3 = 0), zh_wi (zh_wi h6 211 28 (zh_i h6 211 28 + (if a2 = 0 then 0 else 1))) 211 31 (zh_i h6 211 31 + (if a3 = 0 then 0 else 1)), ?_, (((Q3.trans Q4).trans Q5).trans Q6).trans ((Tq.wi S6 (by omega)).trans (Tq.wi (S6.wi _ _ _) (by omega))), by rw [decide_eq_true_eq]; exact dq, by rw [decide_eq_true_eq]; exact uq, ?_, ?_, ?_, ?_, ?_⟩
  · have e4' : zv 2 213 81 [.ref 211, .int (nI d), .int 1, .int 0, .int 0, u5, u6, u7] [] h3 = zv 2 213 81 [.ref 211, .int (nI d), .int y2, .int y3, .int (nI (0 + 1)), v5, v6, v7] [] h4 := e4
    have j31 : ∀ w, zh_i (zh_wi h6 211 28 w) 211 31 = zh_i h6 211 31 := fun w => by rw [hp_i_wi, if_neg (by decide)]
    rw [start, e4', e5, e6, b213_81, if_neg (by decide), b213_255 (S_g0 S6) (S_g1 S6), r_flag]
    simp only [Option.bind_some, Option.toList_some, Option.toList_none, List.cons_append, List.nil_append]
    rw [b213_264 (S_g0 S6) (S_g1 S6), b213_270 (S_g0 (S6.wi _ _ _)) (S_g1 (S6.wi _ _ _)), r_flag]
    simp only [Option.bind_some, Option.toList_some, Option.toList_none, List.cons_append, List.nil_append]
    rw [b213_277 (S_g0 (S6.wi _ _ _)) (S_g1 (S6.wi _ _ _)), j31]
  · rw [hp_i_wi, if_neg (by decide), hp_i_wi, if_neg (by decide), w6 _ (by decide), t27]
  · rw [hp_i_wi, if_neg (by decide), hp_i_wi, if_pos ⟨rfl, rfl⟩, w6 _ (by decide), t28]
    by_cases q : a2 = 0
    · rw [if_pos q, if_neg (by rw [decide_eq_true_eq]; exact fun w => w q), Int32.add_zero]
    · rw [if_neg q, if_pos (decide_eq_true q)]
  · rw [hp_i_wi, if_neg (by decide), hp_i_wi, if_neg (by decide), w6 _ (by decide), t29, ev29]
  · rw [hp_i_wi, if_neg (by decide), hp_i_wi, if_neg (by decide), w6 _ (by decide), t30, ev30]
  · rw [hp_i_wi, if_pos ⟨rfl, rfl⟩, w6 _ (by decide), t31]
    by_cases q : a3 = 0
    · rw [if_pos q, if_neg (by rw [decide_eq_true_eq]; exact fun w => w q), Int32.add_zero]
    · rw [if_neg q, if_pos (decide_eq_true q)]
end R34Z7
end
section
/-! BOTH SIDES: the walk for rows -/
/-- the sums are alike -/
def TR (hc hr : zi_Hp) : Prop := zh_i hc 67 1 = zh_i hr 211 27 ∧ zh_i hc 67 2 = zh_i hr 211 28 ∧ zh_i hc 67 3 = zh_i hr 211 29 ∧ zh_i hc 67 4 = zh_i hr 211 30 ∧ zh_i hc 67 5 = zh_i hr 211 31
/-- a world's rights -/
def arF (hc : zi_Hp) (W : Nat) : Int32 := itF (fun c a => a + wx hc W (10 + 2 * c) 7) 3 0 0
def EXR (n d : Nat) (hc hr : zi_Hp) (oc : Option zi_Rt) : Prop := ∃ hc' b hr1 hr', oc = some (none, hc') ∧ zv 6 215 0 [.ref 211, .int (nI d), .int (nI n)] [] hr = some (some (.int (zi_bI b)), hr1) ∧ (b = true → hr' = hr1) ∧ (b = false → ∀ u3 u4, ∃ v3 v4, zv 7 217 20 [.ref 211, .int (nI n), .int (nI d), u3, u4] [] hr1 = zv 7 217 20 [.ref 211, .int (nI n), .int (nI d + (-1)), v3, v4] [] hr') ∧ CF d hc hc' ∧ OG (387 * d) d d (d + 1) hr hr' ∧ (∀ j, j < d + 1 → zh_i hr' 225 j = zh_i hr 225 j) ∧ (∀ j, j < 387 → zh_i hr' 221 (387 * d + j) = zh_i hr 212 j) ∧ TR hc' hr'
section R34Z8
variable {h h1 h2 hc hr : zi_Hp} {n L : Nat}
theorem i_rc (a b c : Int32) : a + b + c = a + c + b := by rw [Int32.add_assoc, Int32.add_comm b, ← Int32.add_assoc]
theorem ar_3 {W : Nat} : arF h W = ((0 + wx h W (10 + 2 * 0) 7) + wx h W (10 + 2 * 1) 7) + wx h W (10 + 2 * 2) 7 := rfl
theorem TR.t {h1 r1 : zi_Hp} (X : TR hc hr) (e : ∀ j, j ≤ 5 → zh_i h1 67 j = zh_i hc 67 j) (f : ∀ j, 27 ≤ j → zh_i r1 211 j = zh_i hr 211 j) : TR h1 r1 := by
  obtain ⟨x1, x2, x3, x4, x5⟩ := X
  exact ⟨by rw [e 1 (by decide), f 27 (by decide)]; exact x1, by rw [e 2 (by decide), f 28 (by decide)]; exact x2, by rw [e 3 (by decide), f 29 (by decide)]; exact x3, by rw [e 4 (by decide), f 30 (by decide)]; exact x4, by rw [e 5 (by decide), f 31 (by decide)]; exact x5⟩
theorem neg4 : ∀ c, c < 3 → ¬ (-4 : Int32) = nI c := k3 (by decide) (by decide) (by decide)
/-- a row's end, side by side -/
theorem j_lr (O : GO hc) (S2 : Sh h2) {d k : Nat} (hd : d < 8) (hk : 3 < k) (G : Gs (wx hc (69 + 16 * d)) (wy hc (69 + 16 * d)) (zh_i h2 212)) (e11 : zh_i hc 67 11 = -4) (er : arF hc (69 + 16 * d) - zh_i hc 67 10 = zh_i h2 225 d) (X : TR hc h2) {x2 x6 x7 : Int32} {y3 : Int64} {u8 u9 : Value} : ∃ hc' h3, zv k 72 56 [.ref 67, .int (nI d), .int x2, .long y3, .double 1, .ref (69 + 16 * d), .int x6, .int x7, u8, u9] [] hc = some (none, hc') ∧ zv 6 215 40 [.ref 211, .int (nI d), .int (nI n)] [] h2 = some (some (.int 1), h3) ∧ CF d hc hc' ∧ (∀ a b c e, OG a b c e h2 h3) ∧ (∀ j, zh_i h3 225 j = zh_i h2 225 j) ∧ TR hc' h3 := by
  have V := st_V hd
  obtain ⟨S, -⟩ := id O
  obtain ⟨N, R, M, B, L, m, H, r, KK, C, f, I, T⟩ := id G
  obtain ⟨dn, hu, h', e, O', ⟨D1, D2, D3⟩, hdn, hhu, v1, v2, v3, v4, v5⟩ := td5 O V (x2 := x2) (y3 := y3)
  obtain ⟨dn2, hu2, h3, e3, Q, hdn2, hhu2, t27, t28, t29, t30, t31⟩ := u_r5 S2 hd (fun c hc => by
    obtain ⟨k, k1, k2, -⟩ := I.2.1.1 c hc
    exact ⟨k, k2, k1⟩) (u2 := .double 0) (u3 := .double 0) (u4 := .double 0) (u5 := .double 0) (u6 := .double 0) (u7 := .double 0)
  obtain ⟨x1, x2', x3, x4, x5⟩ := X
  have k0 : ∀ c, c < 3 → zh_i hc (69 + 16 * d + (10 + 2 * c)) 0 = zh_i h2 212 (315 + 24 * c) := fun c hc => (T.2.1 c hc).1
  have edn : dn = dn2 := by
    rw [Bool.eq_iff_iff, hdn, hdn2]
    constructor
    · intro q c hc
      have := q c hc
      rw [k0 c hc] at this
      by_cases z : zh_i h2 212 (315 + 24 * c) = 0
      · exact Or.inl z
      · exact Or.inr (Classical.byContradiction (fun w => this ⟨z, w⟩))
    · intro q c hc w
      rw [k0 c hc] at w
      exact (q c hc).elim w.1 w.2
  have eun : ∀ c, c < 3 → (unK (wx hc (69 + 16 * d)) c = true ↔ UN h2 c) := fun c hc => by
    obtain ⟨q0, q1, -, -⟩ := T.2.1 c hc
    unfold unK UN
    rw [decide_eq_true_eq, q0]
    by_cases z : zh_i h2 212 (315 + 24 * c) = 5
    · have nz : ¬ zh_i h2 212 (315 + 24 * c) = 0 := by rw [z]; decide
      rw [q1 nz 1 (by decide) (by decide), q1 nz 4 (by decide) (by decide), q1 nz 5 (by decide) (by decide)]
      exact ⟨fun w => ⟨w.1.1, w.1.2, w.2⟩, fun w => ⟨⟨w.1, w.2.1⟩, w.2.2⟩⟩
    · exact ⟨fun w => absurd w.1.1 z, fun w => absurd w.1 z⟩
  have ehu : hu = hu2 := by
    rw [Bool.eq_iff_iff, hhu, hhu2]
    exact ⟨fun ⟨c, hc, q⟩ => ⟨c, hc, (eun c hc).mp q⟩, fun ⟨c, hc, q⟩ => ⟨c, hc, (eun c hc).mpr q⟩⟩
  have eN : zh_i hc (69 + 16 * d + 1) 0 = zh_i h2 212 312 := T.1.1.1
  have e82 : zv 3 73 82 [.ref 67, .ref (69 + 16 * d), .int x2, .long y3, .double 1] [] h' = some (none, h') := by
    obtain ⟨S, -⟩ := id O'
    obtain ⟨b, e2, hb⟩ := k_ha S V (x := wx h' (69 + 16 * d)) (y := wy h' (69 + 16 * d)) (v := zh_i h' 67 11) (a := zh_i h' 67 12)
    rw [zC_wx] at e2
    have b0 : b = false := by
      cases w : b with
      | false => rfl
      | true =>
        obtain ⟨c, hc, q, -⟩ := hb.mp w
        rw [D1 67 11 (Or.inr (by decide)), e11] at q
        exact absurd q (neg4 c hc)
    rw [b73_82 (by first | (rw [S.n]; decide) | (rw [S.k, kx_67]; done) | (rw [S.n]; have := V.lt; omega) | (rw [wk_0 S V]; done) | (rw [wr_0_0 S V, zq_rf]; done) | (rw [wr_0_0 S V, zq_rf, S.n]; have := V.lt; omega) | (rw [wr_0_0 S V, zq_rf, wk_1 S V])) (by first | (rw [S.n]; decide) | (rw [S.k, kx_67]; done) | (rw [S.n]; have := V.lt; omega) | (rw [wk_0 S V]; done) | (rw [wr_0_0 S V, zq_rf]; done) | (rw [wr_0_0 S V, zq_rf, S.n]; have := V.lt; omega) | (rw [wr_0_0 S V, zq_rf, wk_1 S V])) (by first | (rw [S.n]; decide) | (rw [S.k, kx_67]; done) | (rw [S.n]; have := V.lt; omega) | (rw [wk_0 S V]; done) | (rw [wr_0_0 S V, zq_rf]; done) | (rw [wr_0_0 S V, zq_rf, S.n]; have := V.lt; omega) | (rw [wr_0_0 S V, zq_rf, wk_1 S V])) (by first | (rw [S.n]; decide) | (rw [S.k, kx_67]; done) | (rw [S.n]; have := V.lt; omega) | (rw [wk_0 S V]; done) | (rw [wr_0_0 S V, zq_rf]; done) | (rw [wr_0_0 S V, zq_rf, S.n]; have := V.lt; omega) | (rw [wr_0_0 S V, zq_rf, wk_1 S V])), e2]
    simp only [Option.bind_some, Option.toList_some, Option.toList_none, List.cons_append, List.nil_append]
    rw [b73_94, b0, zi_bI_f, if_pos rfl, b73_129]
  have ar' : arF hc (69 + 16 * d) = itF (fun c a => a + wx hc (69 + 16 * d) (10 + 2 * c) 7) 3 0 0 := rfl
  refine ⟨h', h3, ?_, ?_, ⟨O', fun a j _ q => ⟨D1 a j (Or.inl q), D2 a j⟩, fun j hj => D1 67 j (Or.inr (by omega))⟩, fun a b c e => ⟨Q.1, fun j _ => Q.2.2.1 _ _ (by decide) (by decide) (by omega), fun j _ => Q.2.2.1 _ _ (by decide) (by decide) (by omega), fun j _ => Q.2.2.1 _ _ (by decide) (by decide) (by omega), fun j _ => ⟨Q.2.2.1 _ _ (by decide) (by decide) (by omega), Q.2.2.2.2 _ _ (by decide)⟩⟩, fun j => Q.2.2.1 _ _ (by decide) (by decide) (by omega), ?_, ?_, ?_, ?_, ?_⟩
  · rw [b72_56 hk (by first | (rw [S.n]; decide) | (rw [S.k, kx_67]; done) | (rw [S.n]; have := V.lt; omega) | (rw [wk_0 S V]; done) | (rw [wr_0_0 S V, zq_rf]; done) | (rw [wr_0_0 S V, zq_rf, S.n]; have := V.lt; omega) | (rw [wr_0_0 S V, zq_rf, wk_1 S V])) (by first | (rw [S.n]; decide) | (rw [S.k, kx_67]; done) | (rw [S.n]; have := V.lt; omega) | (rw [wk_0 S V]; done) | (rw [wr_0_0 S V, zq_rf]; done) | (rw [wr_0_0 S V, zq_rf, S.n]; have := V.lt; omega) | (rw [wr_0_0 S V, zq_rf, wk_1 S V])), e, e82]
    simp only [Option.bind_some, Option.toList_some, Option.toList_none, List.cons_append, List.nil_append]
    rw [b72_64]
  · rw [b215_40 (S_g0 S2) (S_g1 S2), e3]
    simp only [Option.bind_some, Option.toList_some, Option.toList_none, List.cons_append, List.nil_append]
    rw [b215_45]
  · rw [v1, t27, x1]
  · rw [v2, t28, edn, x2']
  · rw [v3, t29, eN, x3]
  · rw [v4, t30, ← ar', er, x4]
  · rw [v5, t31, ehu, x5]
/-- the ways on from a state, one client after the other -/
theorem j_lq (hn : n ≤ 7) {d : Nat} (hdt : d < n)
    (ih : ∀ {hc hr : zi_Hp} {x2 : Int32} {y3 : Int64} {u5 u6 u7 u8 u9 : Value}, GO hc → Sh hr → Gs (wx hc (69 + 16 * (d + 1))) (wy hc (69 + 16 * (d + 1))) (zh_i hr 212) → zh_i hc 67 9 = nI n → zh_i hc 67 11 = -4 → (∃ code, zh_i hr 224 (d + 1) = nI code) → arF hc (69 + 16 * (d + 1)) - zh_i hc 67 10 = zh_i hr 225 (d + 1) → TR hc hr → EXR n (d + 1) hc hr (zv (6 + (8 - (d + 1))) 72 0 [.ref 67, .int (nI (d + 1)), .int x2, .long y3, .double 1, u5, u6, u7, u8, u9] [] hc))
    {k : Nat} {s0 : Nat → Int32} {x2 : Int32} {y3 : Int64} (hk : k ≤ 7) (hk0 : 0 < k) (hmk : ∀ c, c < 3 → btF k c = true → msF s0 c = true) :
    ∀ e c, c + e = 3 → ∀ {hc hr : zi_Hp}, GO hc → Sh hr → Gs (wx hc (69 + 16 * d)) (wy hc (69 + 16 * d)) s0 → (∀ j, j < 387 → zh_i hr 221 (387 * d + j) = s0 j) → zh_i hc 67 9 = nI n → zh_i hc 67 11 = -4 → zh_i hr 223 d = nI k → (∃ code, zh_i hr 224 d = nI code) → arF hc (69 + 16 * d) - zh_i hc 67 10 = zh_i hr 225 d → TR hc hr → ∃ hc' hr', zv (6 + (8 - d)) 72 78 [.ref 67, .int (nI d), .int x2, .long y3, .double 1, .ref (69 + 16 * d), .int (nI k), .int (nI (nbF k 3)), .ref (69 + 16 * (d + 1)), .int (nI c)] [] hc = some (none, hc') ∧ (∀ u4, ∃ v3 v4, zv 7 217 31 [.ref 211, .int (nI n), .int (nI d), .int (nI c), u4] [] hr = zv 7 217 20 [.ref 211, .int (nI n), .int (nI d + (-1)), v3, v4] [] hr') ∧ CF d hc hc' ∧ OG (387 * (d + 1)) d (d + 1) (d + 1) hr hr' ∧ (∀ j, j < d + 1 → zh_i hr' 225 j = zh_i hr 225 j) ∧ TR hc' hr'
  | 0, c, hce, hc, hr, O, S, G, es, e9, e11, e3, e4, er, X => by
    have ec : c = 3 := by omega
    subst ec
    have hz : ¬ (nI d < 0 ∨ 8 ≤ (nI d).toNatClampNeg) := zj_n (by omega) (by decide)
    have hy : True := trivial
    have r22 : zh_r hr 211 22 = .ref 222 := by rw [S.r, rx_211_22]
    refine ⟨hc, zh_wi hr 222 d (nI 3 + 1), by rw [b72_78, if_neg (by decide), b72_134], fun u4 => ⟨.int (nI 3), u4, ?_⟩, CF.refl O, ⟨S.wi _ _ _, fun j hj => by rw [hp_i_wi, if_neg (by omega)], fun j hj => by rw [hp_i_wi, if_neg (by omega)], fun j hj => by rw [hp_i_wi, if_neg (by omega)], fun j hj => ⟨by rw [hp_i_wi, if_neg (by omega)], rfl⟩⟩, fun j _ => by rw [hp_i_wi, if_neg (by omega)], X.t (fun _ _ => rfl) (fun j _ => by rw [hp_i_wi, if_neg (by omega)])⟩
    rw [b217_31, if_neg (by decide), b217_55 (by simp +decide only [S.n, S.k, S.r, hp_n_wi, hp_k_wi, hp_r_wi, hp_n_wl, hp_k_wl, hp_r_wl, zq_rf, kx_211, kx_212, kx_221, kx_222, kx_223, kx_224, kx_225, kx_226, kx_227, kx_228, kx_229, rx_211_0, rx_211_21, rx_211_22, rx_211_23, rx_211_24, rx_211_25, rx_211_26, rx_211_32, rx_211_33, rx_211_34, hz, hy]) (by simp +decide only [S.n, S.k, S.r, hp_n_wi, hp_k_wi, hp_r_wi, hp_n_wl, hp_k_wl, hp_r_wl, zq_rf, kx_211, kx_212, kx_221, kx_222, kx_223, kx_224, kx_225, kx_226, kx_227, kx_228, kx_229, rx_211_0, rx_211_21, rx_211_22, rx_211_23, rx_211_24, rx_211_25, rx_211_26, rx_211_32, rx_211_33, rx_211_34, hz, hy]) (by simp +decide only [S.n, S.k, S.r, hp_n_wi, hp_k_wi, hp_r_wi, hp_n_wl, hp_k_wl, hp_r_wl, zq_rf, kx_211, kx_212, kx_221, kx_222, kx_223, kx_224, kx_225, kx_226, kx_227, kx_228, kx_229, rx_211_0, rx_211_21, rx_211_22, rx_211_23, rx_211_24, rx_211_25, rx_211_26, rx_211_32, rx_211_33, rx_211_34, hz, hy]) (by simp +decide only [S.n, S.k, S.r, hp_n_wi, hp_k_wi, hp_r_wi, hp_n_wl, hp_k_wl, hp_r_wl, zq_rf, kx_211, kx_212, kx_221, kx_222, kx_223, kx_224, kx_225, kx_226, kx_227, kx_228, kx_229, rx_211_0, rx_211_21, rx_211_22, rx_211_23, rx_211_24, rx_211_25, rx_211_26, rx_211_32, rx_211_33, rx_211_34, hz, hy]) (by simp +decide only [S.n, S.k, S.r, hp_n_wi, hp_k_wi, hp_r_wi, hp_n_wl, hp_k_wl, hp_r_wl, zq_rf, kx_211, kx_212, kx_221, kx_222, kx_223, kx_224, kx_225, kx_226, kx_227, kx_228, kx_229, rx_211_0, rx_211_21, rx_211_22, rx_211_23, rx_211_24, rx_211_25, rx_211_26, rx_211_32, rx_211_33, rx_211_34, hz, hy]) (by simp +decide only [S.n, S.k, S.r, hp_n_wi, hp_k_wi, hp_r_wi, hp_n_wl, hp_k_wl, hp_r_wl, zq_rf, kx_211, kx_212, kx_221, kx_222, kx_223, kx_224, kx_225, kx_226, kx_227, kx_228, kx_229, rx_211_0, rx_211_21, rx_211_22, rx_211_23, rx_211_24, rx_211_25, rx_211_26, rx_211_32, rx_211_33, rx_211_34, hz, hy]), r22, zq_rf, nI_clamp (by omega), if_neg (by decide), b217_69, b217_179]
  | e + 1, c, hce, hc, hr, O, S, G, es, e9, e11, e3, e4, er, X => by
    have c3 : c < 3 := by omega
    have hz : ¬ (nI d < 0 ∨ 8 ≤ (nI d).toNatClampNeg) := zj_n (by omega) (by decide)
    have hy : True := trivial
    have r22 : zh_r hr 211 22 = .ref 222 := by rw [S.r, rx_211_22]
    have r23 : zh_r hr 211 23 = .ref 223 := by rw [S.r, rx_211_23]
    have hcp : nI c < 3 := nI_lt (b := 3) c3 (by decide)
    obtain ⟨n3, np⟩ := nb_3 k hk
    cases hb : btF k c with
    | false =>
      obtain ⟨hc', hr', f1, f2, f3, f4, f5, f6⟩ := j_lq hn hdt ih (x2 := x2) (y3 := y3) hk hk0 hmk e (c + 1) (by omega) O S G es e9 e11 e3 e4 er X
      refine ⟨hc', hr', ?_, fun u4 => ?_, f3, f4, f5, f6⟩
      · rw [b72_78, if_pos hcp, b72_84, if_pos ((bt_c k hk c c3).mpr hb), b72_128, nI_s, f1]
      · obtain ⟨v3, v4, f⟩ := f2 u4
        exact ⟨v3, v4, by rw [b217_31, if_pos hcp, b217_36 (by simp +decide only [S.n, S.k, S.r, hp_n_wi, hp_k_wi, hp_r_wi, hp_n_wl, hp_k_wl, hp_r_wl, zq_rf, kx_211, kx_212, kx_221, kx_222, kx_223, kx_224, kx_225, kx_226, kx_227, kx_228, kx_229, rx_211_0, rx_211_21, rx_211_22, rx_211_23, rx_211_24, rx_211_25, rx_211_26, rx_211_32, rx_211_33, rx_211_34, hz, hy]) (by simp +decide only [S.n, S.k, S.r, hp_n_wi, hp_k_wi, hp_r_wi, hp_n_wl, hp_k_wl, hp_r_wl, zq_rf, kx_211, kx_212, kx_221, kx_222, kx_223, kx_224, kx_225, kx_226, kx_227, kx_228, kx_229, rx_211_0, rx_211_21, rx_211_22, rx_211_23, rx_211_24, rx_211_25, rx_211_26, rx_211_32, rx_211_33, rx_211_34, hz, hy]) (by simp +decide only [S.n, S.k, S.r, hp_n_wi, hp_k_wi, hp_r_wi, hp_n_wl, hp_k_wl, hp_r_wl, zq_rf, kx_211, kx_212, kx_221, kx_222, kx_223, kx_224, kx_225, kx_226, kx_227, kx_228, kx_229, rx_211_0, rx_211_21, rx_211_22, rx_211_23, rx_211_24, rx_211_25, rx_211_26, rx_211_32, rx_211_33, rx_211_34, hz, hy]) (by simp +decide only [S.n, S.k, S.r, hp_n_wi, hp_k_wi, hp_r_wi, hp_n_wl, hp_k_wl, hp_r_wl, zq_rf, kx_211, kx_212, kx_221, kx_222, kx_223, kx_224, kx_225, kx_226, kx_227, kx_228, kx_229, rx_211_0, rx_211_21, rx_211_22, rx_211_23, rx_211_24, rx_211_25, rx_211_26, rx_211_32, rx_211_33, rx_211_34, hz, hy]) (by simp +decide only [S.n, S.k, S.r, hp_n_wi, hp_k_wi, hp_r_wi, hp_n_wl, hp_k_wl, hp_r_wl, zq_rf, kx_211, kx_212, kx_221, kx_222, kx_223, kx_224, kx_225, kx_226, kx_227, kx_228, kx_229, rx_211_0, rx_211_21, rx_211_22, rx_211_23, rx_211_24, rx_211_25, rx_211_26, rx_211_32, rx_211_33, rx_211_34, hz, hy]) (by simp +decide only [S.n, S.k, S.r, hp_n_wi, hp_k_wi, hp_r_wi, hp_n_wl, hp_k_wl, hp_r_wl, zq_rf, kx_211, kx_212, kx_221, kx_222, kx_223, kx_224, kx_225, kx_226, kx_227, kx_228, kx_229, rx_211_0, rx_211_21, rx_211_22, rx_211_23, rx_211_24, rx_211_25, rx_211_26, rx_211_32, rx_211_33, rx_211_34, hz, hy]), r23, zq_rf, nI_clamp (by omega), e3, if_pos ((bt_o k hk c c3).mpr hb), b217_49, nI_s, f]⟩
    | true =>
      obtain ⟨Sc, GG⟩ := id O
      have V := st_V (d := d) (by omega)
      have V2 := st_V (d := d + 1) (by omega)
      have l2 := V2.l2
      obtain ⟨x1, y1, ek, q⟩ := k_cw Sc V2 V (by omega) (x := wx hc (69 + 16 * (d + 1))) (y := wy hc (69 + 16 * (d + 1))) (u2' := .double 0)
      rw [zC_wx] at ek
      have G1 : Gs x1 y1 s0 := G.sw q
      have G2 : Gs x1 y1 (zh_i (zh_ci (zh_wi hr 222 d (nI (c + 1))) 221 (387 * d) 212 0 387) 212) := G1.congr (fun j hj => by
        rw [hp_i_ci, if_pos ⟨rfl, by omega, by omega⟩, Nat.sub_zero, hp_i_wi, if_neg (by omega)]
        exact es j hj)
      obtain ⟨cd, x2', y2, s', ek2, G3, er1, -, -⟩ := j_step Sc V2 G2 c3
      obtain ⟨cd7, x7, y7, ek7, r7⟩ := j_st7 Sc V2 G1 c3 (hmk c c3 hb)
      rw [ek2] at ek7
      have ecd : cd = cd7 := rt_3 ek7
      have exy : zC hc (69 + 16 * (d + 1)) x2' y2 = zC hc (69 + 16 * (d + 1)) x7 y7 := rt_2 ek7
      obtain ⟨code, e4'⟩ := e4
      obtain ⟨h4, er2, S4, z212, z224, -, z222, Z, -, z225, z225', z211⟩ := u_down S (n := n) (by omega) hk hk0 e3 c3 hb er1 e4' (w := zh_l hr 226 d) rfl
      obtain ⟨hc2, ehc2⟩ : ∃ hc2, hc2 = zC hc (69 + 16 * (d + 1)) x2' y2 := ⟨_, rfl⟩
      have O2 : GO hc2 := by rw [ehc2]; exact O.zC V2 G3.gw
      have w2 : ∀ a j, a < 69 + 16 * (d + 1) → zh_i hc2 a j = zh_i hc a j ∧ zh_b hc2 a j = zh_b hc a j := fun a j ha => by
        rw [ehc2]; exact ⟨zC_io _ (by omega), zC_bo _ (by omega)⟩
      have w7 : ∀ j, zh_i hc2 67 j = zh_i hc 67 j := fun j => (w2 67 j (by omega)).1
      have G4 : Gs (wx hc2 (69 + 16 * (d + 1))) (wy hc2 (69 + 16 * (d + 1))) (zh_i h4 212) := by
        rw [z212]
        refine G3.sw (SW.of (fun o j ho => ?_) (fun o j ho => ?_))
        · show zh_i hc2 (69 + 16 * (d + 1) + o) j = _
          rw [ehc2, zC_i ho]
        · show zh_b hc2 (69 + 16 * (d + 1) + o) j = _
          rw [ehc2, zC_b ho]
      -- the rights
      have cell : ∀ d', d' < 3 → wx hc2 (69 + 16 * (d + 1)) (10 + 2 * d') 7 = wx hc (69 + 16 * d) (10 + 2 * d') 7 + (if d' = c ∧ cd = 1 then 1 else 0) := fun d' hd' => by
        have a1 : wx hc2 (69 + 16 * (d + 1)) (10 + 2 * d') 7 = x7 (10 + 2 * d') 7 := by
          show zh_i hc2 (69 + 16 * (d + 1) + (10 + 2 * d')) 7 = _
          rw [ehc2, exy, zC_i (by omega)]
        have a2 : x1 (10 + 2 * d') 7 = wx hc (69 + 16 * d) (10 + 2 * d') 7 := (q.2.2.2.2 d' hd').1 7 (by decide)
        rw [a1, r7 d' hd', a2, ecd]
      have ar2 : arF hc2 (69 + 16 * (d + 1)) = arF hc (69 + 16 * d) + (if cd = 1 then 1 else 0) := by
        rw [ar_3, ar_3, cell 0 (by decide), cell 1 (by decide), cell 2 (by decide)]
        by_cases q1 : cd = 1
        · have : c = 0 ∨ c = 1 ∨ c = 2 := by omega
          rcases this with rfl | rfl | rfl
          · rw [if_pos ⟨rfl, q1⟩, if_neg (fun w => absurd w.1 (by decide)), if_neg (fun w => absurd w.1 (by decide)), if_pos q1]
            simp only [Int32.add_zero, Int32.zero_add]
            rw [i_rc (wx hc (69 + 16 * d) (10 + 2 * 0) 7) 1, i_rc (wx hc (69 + 16 * d) (10 + 2 * 0) 7 + wx hc (69 + 16 * d) (10 + 2 * 1) 7) 1]
          · rw [if_neg (fun w => absurd w.1 (by decide)), if_pos ⟨rfl, q1⟩, if_neg (fun w => absurd w.1 (by decide)), if_pos q1]
            simp only [Int32.add_zero, Int32.zero_add]
            rw [← Int32.add_assoc, i_rc (wx hc (69 + 16 * d) (10 + 2 * 0) 7 + wx hc (69 + 16 * d) (10 + 2 * 1) 7) 1]
          · rw [if_neg (fun w => absurd w.1 (by decide)), if_neg (fun w => absurd w.1 (by decide)), if_pos ⟨rfl, q1⟩, if_pos q1]
            simp only [Int32.add_zero, Int32.zero_add]
            rw [← Int32.add_assoc]
        · rw [if_neg (fun w => q1 w.2), if_neg (fun w => q1 w.2), if_neg (fun w => q1 w.2), if_neg q1]
          simp only [Int32.add_zero]
      have er4 : arF hc2 (69 + 16 * (d + 1)) - zh_i hc2 67 10 = zh_i h4 225 (d + 1) := by
        rw [z225', w7, ar2, ← er, Int32.sub_eq_add_neg, Int32.sub_eq_add_neg, i_rc]
      obtain ⟨hc3, b, hr1, hr2, g1, g2, gt, gf, g3, g4, g25, -, g7⟩ := ih (hc := hc2) (hr := h4) (x2 := x2 * 10 + nI c) (y3 := y3 / (nI (nbF k 3)).toInt64) (u5 := .double 0) (u6 := .double 0) (u7 := .double 0) (u8 := .double 0) (u9 := .double 0) O2 S4 G4 (by rw [w7]; exact e9) (by rw [w7]; exact e11) ⟨_, z224⟩ er4 (X.t (fun j _ => w7 j) z211)
      have cf2 : CF d hc hc2 := ⟨O2, fun a j h1 _ => w2 a j h1, fun j _ => w7 j⟩
      have cf3 : CF d hc hc3 := cf2.trans g3.up
      have og2 : OG (387 * (d + 1)) d (d + 1) (d + 1) hr hr2 := Z.trans (g4.mono (Nat.le_refl _) (by omega) (Nat.le_refl _) (by omega))
      have n22 : zh_i hr2 222 d = nI (c + 1) := by rw [g4.2.2.1 d (by omega)]; exact z222
      have n25 : ∀ j, j < d + 1 → zh_i hr2 225 j = zh_i hr 225 j := fun j hj => (g25 j (by omega)).trans (z225 j hj)
      have es2 : ∀ j, j < 387 → zh_i hr2 221 (387 * d + j) = s0 j := fun j hj => by rw [og2.2.1 _ (by omega)]; exact es j hj
      have wd : ∀ o j, o < 16 → wx hc3 (69 + 16 * d) o j = wx hc (69 + 16 * d) o j := fun o j ho => (cf3.2.1 _ _ (by omega) (by omega)).1
      have ar3 : arF hc3 (69 + 16 * d) = arF hc (69 + 16 * d) := by rw [ar_3, ar_3, wd _ _ (by decide), wd _ _ (by decide), wd _ _ (by decide)]
      obtain ⟨hc', hr', f1, f2, f3, f4, f5, f6⟩ := j_lq hn hdt ih (x2 := x2) (y3 := y3) hk hk0 hmk e (c + 1) (by omega) (hc := hc3) (hr := hr2) cf3.1 og2.1 (G.sw (SW.of (fun o j ho => wd o j ho) (fun o j ho => (cf3.2.1 _ _ (by omega) (by omega)).2))) es2 (by rw [cf3.2.2 _ (by decide)]; exact e9) (by rw [cf3.2.2 _ (by decide)]; exact e11) (by rw [og2.2.2.2.1 d (by omega)]; exact e3) ⟨code, by rw [(og2.2.2.2.2 d (by omega)).1]; exact e4'⟩ (by rw [ar3, cf3.2.2 _ (by decide), n25 d (by omega)]; exact er) g7
      refine ⟨hc', hr', ?_, fun u4 => ?_, cf3.trans f3, og2.trans f4, fun j hj => (f5 j hj).trans (n25 j hj), f6⟩
      · have nc : (nI (d + 1)).toNatClampNeg = d + 1 := nI_clamp (by omega)
        have nz : ¬ (nI (nbF k 3)).toInt64 = 0 := by rw [nI_L n3]; exact nL_nz (by omega) (np hk0)
        rw [b72_78, if_pos hcp, b72_84, if_neg (fun z => by rw [(bt_c k hk c c3).mp z] at hb; exact absurd hb (by decide)), b72_94 (by omega) (by rw [Sc.n]; omega) (by rw [wk_0 Sc V2]), ek]
        simp only [Option.bind_some, Option.toList_some, Option.toList_none, List.cons_append, List.nil_append]
        rw [b72_101 (by omega) (by rw [zC_n, Sc.n]; omega) (by rw [zC_k, wk_0 Sc V2]), ek2]
        simp only [Option.bind_some, Option.toList_some, Option.toList_none, List.cons_append, List.nil_append]
        rw [← ehc2, b72_108 nz (by rw [nI_s, nc]; omega), nI_s, nc, g1]
        simp only [Option.bind_some, Option.toList_some, Option.toList_none, List.cons_append, List.nil_append]
        rw [b72_128, nI_s, f1]
      · have em : nI (d + 1) + (-1) = nI d := by
          rw [show (-1 : Int32) = -(1 : Int32) from rfl, ← Int32.sub_eq_add_neg, show (1 : Int32) = nI 1 from rfl, nI_sub (by omega)]; rfl
        have S2 := og2.1
        have rg : ∀ {w3 w4 : Value}, zv 7 217 20 [.ref 211, .int (nI n), .int (nI d), w3, w4] [] hr2 = zv 7 217 31 [.ref 211, .int (nI n), .int (nI d), .int (nI (c + 1)), w4] [] hr2 := fun {w3 w4} => by
          have S := S2
          have r22 : zh_r hr2 211 22 = .ref 222 := by rw [S.r, rx_211_22]
          rw [b217_20, if_neg (nI_pos (by omega)), b217_24 (by simp +decide only [S.n, S.k, S.r, hp_n_wi, hp_k_wi, hp_r_wi, hp_n_wl, hp_k_wl, hp_r_wl, zq_rf, kx_211, kx_212, kx_221, kx_222, kx_223, kx_224, kx_225, kx_226, kx_227, kx_228, kx_229, rx_211_0, rx_211_21, rx_211_22, rx_211_23, rx_211_24, rx_211_25, rx_211_26, rx_211_32, rx_211_33, rx_211_34, hz, hy]) (by simp +decide only [S.n, S.k, S.r, hp_n_wi, hp_k_wi, hp_r_wi, hp_n_wl, hp_k_wl, hp_r_wl, zq_rf, kx_211, kx_212, kx_221, kx_222, kx_223, kx_224, kx_225, kx_226, kx_227, kx_228, kx_229, rx_211_0, rx_211_21, rx_211_22, rx_211_23, rx_211_24, rx_211_25, rx_211_26, rx_211_32, rx_211_33, rx_211_34, hz, hy]) (by simp +decide only [S.n, S.k, S.r, hp_n_wi, hp_k_wi, hp_r_wi, hp_n_wl, hp_k_wl, hp_r_wl, zq_rf, kx_211, kx_212, kx_221, kx_222, kx_223, kx_224, kx_225, kx_226, kx_227, kx_228, kx_229, rx_211_0, rx_211_21, rx_211_22, rx_211_23, rx_211_24, rx_211_25, rx_211_26, rx_211_32, rx_211_33, rx_211_34, hz, hy]) (by simp +decide only [S.n, S.k, S.r, hp_n_wi, hp_k_wi, hp_r_wi, hp_n_wl, hp_k_wl, hp_r_wl, zq_rf, kx_211, kx_212, kx_221, kx_222, kx_223, kx_224, kx_225, kx_226, kx_227, kx_228, kx_229, rx_211_0, rx_211_21, rx_211_22, rx_211_23, rx_211_24, rx_211_25, rx_211_26, rx_211_32, rx_211_33, rx_211_34, hz, hy]) (by simp +decide only [S.n, S.k, S.r, hp_n_wi, hp_k_wi, hp_r_wi, hp_n_wl, hp_k_wl, hp_r_wl, zq_rf, kx_211, kx_212, kx_221, kx_222, kx_223, kx_224, kx_225, kx_226, kx_227, kx_228, kx_229, rx_211_0, rx_211_21, rx_211_22, rx_211_23, rx_211_24, rx_211_25, rx_211_26, rx_211_32, rx_211_33, rx_211_34, hz, hy]) (by simp +decide only [S.n, S.k, S.r, hp_n_wi, hp_k_wi, hp_r_wi, hp_n_wl, hp_k_wl, hp_r_wl, zq_rf, kx_211, kx_212, kx_221, kx_222, kx_223, kx_224, kx_225, kx_226, kx_227, kx_228, kx_229, rx_211_0, rx_211_21, rx_211_22, rx_211_23, rx_211_24, rx_211_25, rx_211_26, rx_211_32, rx_211_33, rx_211_34, hz, hy]), r22, zq_rf, nI_clamp (by omega), n22]
        have back : ∃ w3 w4, zv 7 217 31 [.ref 211, .int (nI n), .int (nI d), .int (nI c), u4] [] hr = zv 7 217 20 [.ref 211, .int (nI n), .int (nI d), w3, w4] [] hr2 := by
          rw [er2 u4, g2]
          simp only [Option.bind_some, Option.toList_some, Option.toList_none, List.cons_append, List.nil_append]
          rw [b217_169]
          cases b with
          | true =>
            rw [gt rfl]
            exact ⟨_, _, by rw [zi_bI_t, if_neg (by decide), b217_172, b217_177, b217_179, Int32.add_zero]⟩
          | false =>
            obtain ⟨v3, v4, g9⟩ := gf rfl (.int (nI c)) (.int cd)
            exact ⟨v3, v4, by rw [zi_bI_f, if_pos rfl, b217_176, b217_177, b217_179, nI_s, g9, em]⟩
        obtain ⟨w3, w4, e9'⟩ := back
        obtain ⟨v3, v4, f⟩ := f2 w4
        exact ⟨v3, v4, by rw [e9', rg, f]⟩
/-- a bit says who may step -/
theorem wh_b {s : Nat → Int32} {k : Nat} (hk : k ≤ 7) (e : whF s = nI k) : ∀ c, c < 3 → btF k c = true → msF s c = true := by
  have e2 : whF s = ((0 ||| (zi_bI (msF s 0) <<< (nI 0 &&& 31))) ||| (zi_bI (msF s 1) <<< (nI 1 &&& 31))) ||| (zi_bI (msF s 2) <<< (nI 2 &&& 31)) := rfl
  rw [e2] at e
  cases h0 : msF s 0 <;> cases h1 : msF s 1 <;> cases h2 : msF s 2 <;> rw [h0, h1, h2] at e
  · have : k = 0 := (nI_eq' (a := 0) (by decide) (by omega)).mp e |>.symm
    subst this; exact k3 (fun q => absurd q (by decide)) (fun q => absurd q (by decide)) (fun q => absurd q (by decide))
  · have : k = 4 := (nI_eq' (a := 4) (by decide) (by omega)).mp e |>.symm
    subst this; exact k3 (fun q => absurd q (by decide)) (fun q => absurd q (by decide)) (fun _ => h2)
  · have : k = 2 := (nI_eq' (a := 2) (by decide) (by omega)).mp e |>.symm
    subst this; exact k3 (fun q => absurd q (by decide)) (fun _ => h1) (fun q => absurd q (by decide))
  · have : k = 6 := (nI_eq' (a := 6) (by decide) (by omega)).mp e |>.symm
    subst this; exact k3 (fun q => absurd q (by decide)) (fun _ => h1) (fun _ => h2)
  · have : k = 1 := (nI_eq' (a := 1) (by decide) (by omega)).mp e |>.symm
    subst this; exact k3 (fun _ => h0) (fun q => absurd q (by decide)) (fun q => absurd q (by decide))
  · have : k = 5 := (nI_eq' (a := 5) (by decide) (by omega)).mp e |>.symm
    subst this; exact k3 (fun _ => h0) (fun q => absurd q (by decide)) (fun _ => h2)
  · have : k = 3 := (nI_eq' (a := 3) (by decide) (by omega)).mp e |>.symm
    subst this; exact k3 (fun _ => h0) (fun _ => h1) (fun q => absurd q (by decide))
  · have : k = 7 := (nI_eq' (a := 7) (by decide) (by omega)).mp e |>.symm
    subst this; exact k3 (fun _ => h0) (fun _ => h1) (fun _ => h2)
/-- a state of the walk, side by side -/
theorem j_er (hn : n ≤ 7) : ∀ t d, d + t = n → ∀ {hc hr : zi_Hp} {x2 : Int32} {y3 : Int64} {u5 u6 u7 u8 u9 : Value}, GO hc → Sh hr → Gs (wx hc (69 + 16 * d)) (wy hc (69 + 16 * d)) (zh_i hr 212) → zh_i hc 67 9 = nI n → zh_i hc 67 11 = -4 → (∃ code, zh_i hr 224 d = nI code) → arF hc (69 + 16 * d) - zh_i hc 67 10 = zh_i hr 225 d → TR hc hr → EXR n d hc hr (zv (6 + (8 - d)) 72 0 [.ref 67, .int (nI d), .int x2, .long y3, .double 1, u5, u6, u7, u8, u9] [] hc) := by
  intro t
  induction t with
  | zero =>
    intro d hdt hc hr x2 y3 u5 u6 u7 u8 u9 O S G e9 e11 e4 er X
    obtain ⟨k, h2, hk, k0, k1, f1, S2, i2, l2, i221, i222, i223, og⟩ := u_half S G.inv (D := d) (n := n) (by omega) hn
    have hk0 : k = 0 := k0 (by omega)
    have s2 : zh_i h2 212 = zh_i hr 212 := funext (fun j => i2 _ _ (by decide) (by decide) (by decide))
    obtain ⟨hc', h3, g1, g2, g3, g4, g5, g6⟩ := j_lr O S2 (d := d) (n := n) (k := 6 + (8 - d)) (by omega) (by omega) (by rw [s2]; exact G) e11 (by rw [i2 _ _ (by decide) (by decide) (by decide)]; exact er) (X.t (fun _ _ => rfl) (fun j _ => i2 _ _ (by decide) (by decide) (by decide))) (x2 := x2) (y3 := y3) (x6 := nI k) (x7 := nI (nbF k 3)) (u8 := u8) (u9 := u9)
    exact ⟨hc', true, h3, h3, by rw [c_half O (by omega) hn e9 G hk k0 k1, if_pos hk0, g1], by rw [f1, if_pos hk0, g2]; rfl, fun _ => rfl, fun q => absurd q (by decide), g3, og.trans (g4 _ _ _ _), fun j _ => by rw [g5, i2 _ _ (by decide) (by decide) (by decide)], fun j hj => by rw [(g4 (387 * (d + 1)) d d d).2.1 _ (by omega), i221 j hj], g6⟩
  | succ t ih =>
    intro d hdt hc hr x2 y3 u5 u6 u7 u8 u9 O S G e9 e11 e4 er X
    obtain ⟨k, h2, hk, k0, k1, f1, S2, i2, l2, i221, i222, i223, og⟩ := u_half S G.inv (D := d) (n := n) (by omega) hn
    have s2 : zh_i h2 212 = zh_i hr 212 := funext (fun j => i2 _ _ (by decide) (by decide) (by decide))
    have X2 : TR hc h2 := X.t (fun _ _ => rfl) (fun j _ => i2 _ _ (by decide) (by decide) (by decide))
    have er2 : arF hc (69 + 16 * d) - zh_i hc 67 10 = zh_i h2 225 d := by rw [i2 _ _ (by decide) (by decide) (by decide)]; exact er
    by_cases hk0 : k = 0
    · obtain ⟨hc', h3, g1, g2, g3, g4, g5, g6⟩ := j_lr O S2 (d := d) (n := n) (k := 6 + (8 - d)) (by omega) (by omega) (by rw [s2]; exact G) e11 er2 X2 (x2 := x2) (y3 := y3) (x6 := nI k) (x7 := nI (nbF k 3)) (u8 := u8) (u9 := u9)
      exact ⟨hc', true, h3, h3, by rw [c_half O (by omega) hn e9 G hk k0 k1, if_pos hk0, g1], by rw [f1, if_pos hk0, g2]; rfl, fun _ => rfl, fun q => absurd q (by decide), g3, og.trans (g4 _ _ _ _), fun j _ => by rw [g5, i2 _ _ (by decide) (by decide) (by decide)], fun j hj => by rw [(g4 (387 * (d + 1)) d d d).2.1 _ (by omega), i221 j hj], g6⟩
    · obtain ⟨hc', hr', g1, g2, g3, g4, g5, g6⟩ := j_lq hn (d := d) (by omega) (fun {hc hr x2 y3 u5 u6 u7 u8 u9} a1 a2 a3 a4 a5 a6 a7 a8 => ih (d + 1) (by omega) a1 a2 a3 a4 a5 a6 a7 a8) (x2 := x2) (y3 := y3) hk (by omega) (wh_b hk (k1 (by omega))) 3 0 rfl (hc := hc) (hr := h2) O S2 G i221 e9 e11 i223 (by obtain ⟨code, q⟩ := e4; exact ⟨code, by rw [i2 _ _ (by decide) (by decide) (by decide)]; exact q⟩) er2 X2
      obtain ⟨Sc, -⟩ := id O
      have V := st_V (d := d) (by omega)
      have r0 : zh_r hc 67 0 = .ref 68 := by rw [Sc.r, rx_67_0]
      have k8 : zh_k hc 68 = (103, 8) := by rw [Sc.k, kx_68]
      have nc : (nI (d + 1)).toNatClampNeg = d + 1 := nI_clamp (by omega)
      have r1 : zh_r hc 68 (d + 1) = .ref (69 + 16 * (d + 1)) := st_r Sc (by omega)
      have S := Sc
      have hz : ¬ (nI d < 0 ∨ 8 ≤ (nI d).toNatClampNeg) := zj_n (by omega) (by decide)
      have hy : True := trivial
      refine ⟨hc', false, h2, hr', ?_, by rw [f1, if_neg hk0]; rfl, fun q => absurd q (by decide), fun _ u3 u4 => ?_, g3, og.trans (g4.mono (by omega) (Nat.le_refl _) (by omega) (Nat.le_refl _)), fun j hj => by rw [g5 j hj, i2 _ _ (by decide) (by decide) (by decide)], fun j hj => by rw [g4.2.1 _ (by omega), i221 j hj], g6⟩
      · rw [c_half O (by omega) hn e9 G hk k0 k1, if_neg hk0, b72_65 (by first | (rw [S.n]; decide) | (rw [S.k, kx_67]; done) | (rw [S.n]; have := V.lt; omega) | (rw [wk_0 S V]; done) | (rw [wr_0_0 S V, zq_rf]; done) | (rw [wr_0_0 S V, zq_rf, S.n]; have := V.lt; omega) | (rw [wr_0_0 S V, zq_rf, wk_1 S V])) (by first | (rw [S.n]; decide) | (rw [S.k, kx_67]; done) | (rw [S.n]; have := V.lt; omega) | (rw [wk_0 S V]; done) | (rw [wr_0_0 S V, zq_rf]; done) | (rw [wr_0_0 S V, zq_rf, S.n]; have := V.lt; omega) | (rw [wr_0_0 S V, zq_rf, wk_1 S V])) (by rw [r0, zq_rf]) (by rw [r0, zq_rf, S.n]; decide) (by rw [r0, zq_rf, k8, nI_s]; exact zj_n (by omega) (by decide)) (by rw [r0, zq_rf, k8]; exact Or.inl rfl) (by rw [r0, zq_rf, nI_s, nc, r1, zq_rf]), r0, zq_rf, nI_s, nc, r1, zq_rf]
        exact g1
      · obtain ⟨v3, v4, g⟩ := g2 u4
        refine ⟨v3, v4, ?_⟩
        have S := S2
        have r22 : zh_r h2 211 22 = .ref 222 := by rw [S.r, rx_211_22]
        rw [b217_20, if_neg (nI_pos (by omega)), b217_24 (by simp +decide only [S.n, S.k, S.r, hp_n_wi, hp_k_wi, hp_r_wi, hp_n_wl, hp_k_wl, hp_r_wl, zq_rf, kx_211, kx_212, kx_221, kx_222, kx_223, kx_224, kx_225, kx_226, kx_227, kx_228, kx_229, rx_211_0, rx_211_21, rx_211_22, rx_211_23, rx_211_24, rx_211_25, rx_211_26, rx_211_32, rx_211_33, rx_211_34, hz, hy]) (by simp +decide only [S.n, S.k, S.r, hp_n_wi, hp_k_wi, hp_r_wi, hp_n_wl, hp_k_wl, hp_r_wl, zq_rf, kx_211, kx_212, kx_221, kx_222, kx_223, kx_224, kx_225, kx_226, kx_227, kx_228, kx_229, rx_211_0, rx_211_21, rx_211_22, rx_211_23, rx_211_24, rx_211_25, rx_211_26, rx_211_32, rx_211_33, rx_211_34, hz, hy]) (by simp +decide only [S.n, S.k, S.r, hp_n_wi, hp_k_wi, hp_r_wi, hp_n_wl, hp_k_wl, hp_r_wl, zq_rf, kx_211, kx_212, kx_221, kx_222, kx_223, kx_224, kx_225, kx_226, kx_227, kx_228, kx_229, rx_211_0, rx_211_21, rx_211_22, rx_211_23, rx_211_24, rx_211_25, rx_211_26, rx_211_32, rx_211_33, rx_211_34, hz, hy]) (by simp +decide only [S.n, S.k, S.r, hp_n_wi, hp_k_wi, hp_r_wi, hp_n_wl, hp_k_wl, hp_r_wl, zq_rf, kx_211, kx_212, kx_221, kx_222, kx_223, kx_224, kx_225, kx_226, kx_227, kx_228, kx_229, rx_211_0, rx_211_21, rx_211_22, rx_211_23, rx_211_24, rx_211_25, rx_211_26, rx_211_32, rx_211_33, rx_211_34, hz, hy]) (by simp +decide only [S.n, S.k, S.r, hp_n_wi, hp_k_wi, hp_r_wi, hp_n_wl, hp_k_wl, hp_r_wl, zq_rf, kx_211, kx_212, kx_221, kx_222, kx_223, kx_224, kx_225, kx_226, kx_227, kx_228, kx_229, rx_211_0, rx_211_21, rx_211_22, rx_211_23, rx_211_24, rx_211_25, rx_211_26, rx_211_32, rx_211_33, rx_211_34, hz, hy]) (by simp +decide only [S.n, S.k, S.r, hp_n_wi, hp_k_wi, hp_r_wi, hp_n_wl, hp_k_wl, hp_r_wl, zq_rf, kx_211, kx_212, kx_221, kx_222, kx_223, kx_224, kx_225, kx_226, kx_227, kx_228, kx_229, rx_211_0, rx_211_21, rx_211_22, rx_211_23, rx_211_24, rx_211_25, rx_211_26, rx_211_32, rx_211_33, rx_211_34, hz, hy]), r22, zq_rf, nI_clamp (by omega), i222, g]
end R34Z8
end
section
/-! BOTH SIDES: rows, as they are asked -/
section R34Z9
variable {h h1 hc hr : zi_Hp} {n L : Nat}
/-- the whole walk, side by side -/
theorem j_wr (O : GO hc) (S : Sh hr) (G : Gs (wx hc 1) (wy hc 1) (zh_i hr 212)) (hn : n ≤ 7) : ∃ hc' hr', zv 16 71 0 [.ref 67, .ref 1, .int (nI n), .int (-4), .int (-4)] [] hc = some (none, hc') ∧ Sh hc' ∧ (∀ u2 u3 u4, zv 7 217 0 [.ref 211, .int (nI n), u2, u3, u4] [] hr = some (none, hr')) ∧ Sh hr' ∧ TR hc' hr' := by
  obtain ⟨Sc, -⟩ := id O
  have V := V1
  -- the class's start
  obtain ⟨h0, eh0⟩ : ∃ h0, h0 = zh_wi (zh_wl (zh_wi (zh_wi (zh_wi (zh_wi (zh_wi (zh_wi (zh_wi hc 67 1 0) 67 2 0) 67 3 0) 67 4 0) 67 5 0) 67 6 0) 67 7 (-4)) 67 8 0) 67 9 (if 7 < nI n then 7 else nI n) := ⟨_, rfl⟩
  have O0 : GO h0 := by
    rw [eh0]; exact (((((((((O.wi wo_67).wi wo_67).wi wo_67).wi wo_67).wi wo_67).wi wo_67).wi wo_67).wl).wi wo_67)
  have ev := k_ar O0.1 V1 (x := wx h0 1) (y := wy h0 1) (u1 := .double 0) (u2 := .double 0)
  rw [zC_wx] at ev
  obtain ⟨v, evv⟩ : ∃ v, v = itF (fun c a => a + wx h0 1 (10 + 2 * c) 7) 3 0 0 := ⟨_, rfl⟩
  rw [← evv] at ev
  obtain ⟨S0, -⟩ := id O0
  have i0 : ∀ a j, a ≠ 67 → zh_i h0 a j = zh_i hc a j ∧ zh_b h0 a j = zh_b hc a j := fun a j q => by
    rw [eh0]
    refine ⟨?_, Eq.trans rfl rfl⟩
    rw [hp_i_wi, if_neg (by omega), hp_i_wl, hp_i_wi, if_neg (by omega), hp_i_wi, if_neg (by omega), hp_i_wi, if_neg (by omega), hp_i_wi, if_neg (by omega), hp_i_wi, if_neg (by omega), hp_i_wi, if_neg (by omega), hp_i_wi, if_neg (by omega)]
  have tz : ∀ j, 1 ≤ j → j ≤ 5 → zh_i h0 67 j = 0 := fun j q1 q2 => by
    have : j = 1 ∨ j = 2 ∨ j = 3 ∨ j = 4 ∨ j = 5 := by omega
    rw [eh0]
    rcases this with rfl | rfl | rfl | rfl | rfl
    · rw [hp_i_wi, if_neg (by decide), hp_i_wl, hp_i_wi, if_neg (by decide), hp_i_wi, if_neg (by decide), hp_i_wi, if_neg (by decide), hp_i_wi, if_neg (by decide), hp_i_wi, if_neg (by decide), hp_i_wi, if_neg (by decide), hp_i_wi, if_pos ⟨rfl, rfl⟩]
    · rw [hp_i_wi, if_neg (by decide), hp_i_wl, hp_i_wi, if_neg (by decide), hp_i_wi, if_neg (by decide), hp_i_wi, if_neg (by decide), hp_i_wi, if_neg (by decide), hp_i_wi, if_neg (by decide), hp_i_wi, if_pos ⟨rfl, rfl⟩]
    · rw [hp_i_wi, if_neg (by decide), hp_i_wl, hp_i_wi, if_neg (by decide), hp_i_wi, if_neg (by decide), hp_i_wi, if_neg (by decide), hp_i_wi, if_neg (by decide), hp_i_wi, if_pos ⟨rfl, rfl⟩]
    · rw [hp_i_wi, if_neg (by decide), hp_i_wl, hp_i_wi, if_neg (by decide), hp_i_wi, if_neg (by decide), hp_i_wi, if_neg (by decide), hp_i_wi, if_pos ⟨rfl, rfl⟩]
    · rw [hp_i_wi, if_neg (by decide), hp_i_wl, hp_i_wi, if_neg (by decide), hp_i_wi, if_neg (by decide), hp_i_wi, if_pos ⟨rfl, rfl⟩]
  have t9 : zh_i h0 67 9 = nI n := by
    have q : ¬ (7 : Int32) < nI n := fun w => by rw [show (7 : Int32) = nI 7 from rfl, nI_lt' (by omega) (by omega)] at w; omega
    rw [eh0, hp_i_wi, if_pos ⟨rfl, rfl⟩, if_neg q]
  obtain ⟨h1, eh1⟩ : ∃ h1, h1 = zh_wi (zh_wi (zh_wi h0 67 10 v) 67 11 (-4)) 67 12 (-4) := ⟨_, rfl⟩
  have O1 : GO h1 := by rw [eh1]; exact ((O0.wi wo_67).wi wo_67).wi wo_67
  obtain ⟨S1, -⟩ := id O1
  have i1 : ∀ a j, a ≠ 67 → zh_i h1 a j = zh_i hc a j ∧ zh_b h1 a j = zh_b hc a j := fun a j q => by
    rw [← (i0 a j q).1, ← (i0 a j q).2, eh1]
    refine ⟨?_, Eq.trans rfl rfl⟩
    rw [hp_i_wi, if_neg (by omega), hp_i_wi, if_neg (by omega), hp_i_wi, if_neg (by omega)]
  have j1 : ∀ j, j < 10 → zh_i h1 67 j = zh_i h0 67 j := fun j q => by rw [eh1, hp_i_wi, if_neg (by omega), hp_i_wi, if_neg (by omega), hp_i_wi, if_neg (by omega)]
  have m11 : zh_i h1 67 11 = -4 := by rw [eh1, hp_i_wi, if_neg (by decide), hp_i_wi, if_pos ⟨rfl, rfl⟩]
  have m10 : zh_i h1 67 10 = v := by rw [eh1, hp_i_wi, if_neg (by decide), hp_i_wi, if_neg (by decide), hp_i_wi, if_pos ⟨rfl, rfl⟩]
  -- the copy
  have V2 := st_V (d := 0) (by decide)
  obtain ⟨x2, y2, ek, q⟩ := k_cw S1 V2 V1 (by decide) (x := wx h1 (69 + 16 * 0)) (y := wy h1 (69 + 16 * 0)) (u2' := .double 0)
  rw [zC_wx] at ek
  have G2 : Gs x2 y2 (zh_i hr 212) := (G.sw (SW.of (fun o j ho => (i1 _ _ (by omega)).1) (fun o j ho => (i1 _ _ (by omega)).2))).sw q
  obtain ⟨h2, eh2⟩ : ∃ h2, h2 = zC h1 (69 + 16 * 0) x2 y2 := ⟨_, rfl⟩
  have O2 : GO h2 := by rw [eh2]; exact O1.zC V2 G2.gw
  have w2 : ∀ j, zh_i h2 67 j = zh_i h1 67 j := fun j => by rw [eh2]; exact zC_io _ (by omega)
  -- the reference's start
  obtain ⟨r1, f1, R1, s1, -, z224, -, z225, z211⟩ := u_sx S hn (u2 := .double 0)
  have G3 : Gs (wx h2 (69 + 16 * 0)) (wy h2 (69 + 16 * 0)) (zh_i r1 212) := by
    rw [s1]
    refine G2.sw (SW.of (fun o j ho => ?_) (fun o j ho => ?_))
    · show zh_i h2 (69 + 16 * 0 + o) j = _
      rw [eh2, zC_i ho]
    · show zh_b h2 (69 + 16 * 0 + o) j = _
      rw [eh2, zC_b ho]
  have X : TR h2 r1 := ⟨by rw [w2, j1 _ (by decide), tz 1 (by decide) (by decide), z211 27 (by decide) (by decide)], by rw [w2, j1 _ (by decide), tz 2 (by decide) (by decide), z211 28 (by decide) (by decide)], by rw [w2, j1 _ (by decide), tz 3 (by decide) (by decide), z211 29 (by decide) (by decide)], by rw [w2, j1 _ (by decide), tz 4 (by decide) (by decide), z211 30 (by decide) (by decide)], by rw [w2, j1 _ (by decide), tz 5 (by decide) (by decide), z211 31 (by decide) (by decide)]⟩
  have ar : arF h2 (69 + 16 * 0) - zh_i h2 67 10 = zh_i r1 225 0 := by
    have cell : ∀ c, c < 3 → wx h2 (69 + 16 * 0) (10 + 2 * c) 7 = wx h0 1 (10 + 2 * c) 7 := fun c hc => by
      have a1 : wx h2 (69 + 16 * 0) (10 + 2 * c) 7 = x2 (10 + 2 * c) 7 := by
        show zh_i h2 (69 + 16 * 0 + (10 + 2 * c)) 7 = _
        rw [eh2, zC_i (by omega)]
      have a2 : x2 (10 + 2 * c) 7 = zh_i h1 (1 + (10 + 2 * c)) 7 := (q.2.2.2.2 c hc).1 7 (by decide)
      rw [a1, a2, (i1 _ _ (by omega)).1, ← (i0 _ _ (by omega)).1]
      rfl
    rw [z225, w2, m10, evv, ar_3, cell 0 (by decide), cell 1 (by decide), cell 2 (by decide)]
    exact Int32.sub_self _
  obtain ⟨hc', b, hr1, hr2, g1, g2, gt, gf, g3, g4, -, -, g8⟩ := j_er hn n 0 (Nat.zero_add _) (hc := h2) (hr := r1) (x2 := 1) (y3 := 279936) (u5 := .double 0) (u6 := .double 0) (u7 := .double 0) (u8 := .double 0) (u9 := .double 0) O2 R1 G3 (by rw [w2, j1 _ (by decide)]; exact t9) (by rw [w2]; exact m11) ⟨1, z224⟩ ar X
  have Rr := g4.1
  obtain ⟨hr3, ehr3⟩ : ∃ hr3, hr3 = zh_ci hr2 221 (387 * 0) 212 0 387 := ⟨_, rfl⟩
  have i3 : ∀ a j, a ≠ 212 → zh_i hr3 a j = zh_i hr2 a j := fun a j q => by rw [ehr3, hp_i_ci, if_neg (by omega)]
  refine ⟨hc', hr3, ?_, g3.1.1, fun u2 u3 u4 => ?_, by rw [ehr3]; exact Rr.ci _ _ _ _ _, g8.t (fun _ _ => rfl) (fun j _ => i3 _ _ (by decide))⟩
  · have S := Sc
    rw [b71_0 (by first | (rw [S.n]; decide) | (rw [S.k, kx_67]; done) | (rw [S.n]; have := V.lt; omega) | (rw [wk_0 S V]; done) | (rw [wr_0_0 S V, zq_rf]; done) | (rw [wr_0_0 S V, zq_rf, S.n]; have := V.lt; omega) | (rw [wr_0_0 S V, zq_rf, wk_1 S V])) (by first | (rw [S.n]; decide) | (rw [S.k, kx_67]; done) | (rw [S.n]; have := V.lt; omega) | (rw [wk_0 S V]; done) | (rw [wr_0_0 S V, zq_rf]; done) | (rw [wr_0_0 S V, zq_rf, S.n]; have := V.lt; omega) | (rw [wr_0_0 S V, zq_rf, wk_1 S V])) (by first | (rw [S.n]; decide) | (rw [S.k, kx_67]; done) | (rw [S.n]; have := V.lt; omega) | (rw [wk_0 S V]; done) | (rw [wr_0_0 S V, zq_rf]; done) | (rw [wr_0_0 S V, zq_rf, S.n]; have := V.lt; omega) | (rw [wr_0_0 S V, zq_rf, wk_1 S V])) (by first | (rw [S.n]; decide) | (rw [S.k, kx_67]; done) | (rw [S.n]; have := V.lt; omega) | (rw [wk_0 S V]; done) | (rw [wr_0_0 S V, zq_rf]; done) | (rw [wr_0_0 S V, zq_rf, S.n]; have := V.lt; omega) | (rw [wr_0_0 S V, zq_rf, wk_1 S V])), ← eh0, ev]
    simp only [Option.bind_some, Option.toList_some, Option.toList_none, List.cons_append, List.nil_append]
    have r0 : zh_r h0 67 0 = .ref 68 := by rw [S0.r, rx_67_0]
    have k8 : zh_k h0 68 = (103, 8) := by rw [S0.k, kx_68]
    have r1' : zh_r h0 68 0 = .ref 69 := by rw [S0.r, rx_68_0]
    have k9 : zh_k h0 69 = (6, 2) := by rw [S0.k, kx_69]
    have n0 : (67 : Nat) < zh_n h0 := by rw [S0.n]; decide
    have k7 : (zh_k h0 67).1 = 5 := by rw [S0.k, kx_67]
    have g1' : zv 14 72 0 [.ref 67, .int 0, .int 1, .long 279936, .double 1, .double 0, .double 0, .double 0, .double 0, .double 0] [] h2 = some (none, hc') := by
      exact g1
    have ek' : zv 2 75 0 [.ref 69, .ref 1, .double 0] [] h1 = some (none, h2) := by rw [eh2]; exact ek
    rw [b71_56 n0 k7 n0 k7 (by rw [r0, zq_rf]) (by rw [r0, zq_rf, S0.n]; decide) (by rw [r0, zq_rf, k8]; decide) (by rw [r0, zq_rf, k8]; exact Or.inl rfl) (by rw [r0, zq_rf, r1', zq_rf]) (by rw [r0, zq_rf, r1', zq_rf, S0.n]; decide) (by rw [r0, zq_rf, r1', zq_rf, k9]), r0, zq_rf, r1', zq_rf, ← eh1, ek']
    simp only [Option.bind_some, Option.toList_some, Option.toList_none, List.cons_append, List.nil_append]
    rw [b71_80, g1']
    simp only [Option.bind_some, Option.toList_some, Option.toList_none, List.cons_append, List.nil_append]
    rw [b71_89]
  · have rs : zv 1 212 0 [.ref 211, .int 0, .double 0] [] hr2 = some (none, hr3) := by rw [ehr3]; exact c_restores Rr (d := 0) (by decide)
    have g2' : zv 6 215 0 [.ref 211, .int 0, .int (nI n)] [] r1 = some (some (.int (zi_bI b)), hr1) := g2
    have fin : ∀ {v3 v4 : Value}, zv 7 217 20 [.ref 211, .int (nI n), .int (-1), v3, v4] [] hr2 = some (none, hr3) := fun {v3 v4} => by
      rw [b217_20, if_pos (by decide), b217_182 (S_g0 Rr) (S_g1 Rr), rs]
      simp only [Option.bind_some, Option.toList_some, Option.toList_none, List.cons_append, List.nil_append]
      rw [b217_187]
    rw [b217_0 (S_g0 S) (S_g1 S), f1]
    simp only [Option.bind_some, Option.toList_some, Option.toList_none, List.cons_append, List.nil_append]
    rw [b217_5 (S_g0 R1) (S_g1 R1), g2']
    simp only [Option.bind_some, Option.toList_some, Option.toList_none, List.cons_append, List.nil_append]
    rw [b217_11]
    cases b with
    | true =>
      rw [zi_bI_t, if_neg (by decide), b217_14, b217_19, ← gt rfl]
      exact fin
    | false =>
      obtain ⟨v3, v4, g9⟩ := gf rfl u3 u4
      have g9' : zv 7 217 20 [.ref 211, .int (nI n), .int 0, u3, u4] [] hr1 = zv 7 217 20 [.ref 211, .int (nI n), .int (-1), v3, v4] [] hr2 := g9
      rw [zi_bI_f, if_pos rfl, b217_18, b217_19, g9']
      exact fin
theorem c_row0 (S : Sh h) {x w : Int32} (A : ¬ ((¬ x < 0 ∧ ¬ 7 < x) ∧ ¬ w < 0 ∧ ¬ 4 < w)) : zv 17 119 0 [.ref 0, .int x, .int w] [] h = some (some (.int (-1)), h) := by
  by_cases hv : ¬ x < 0 ∧ ¬ 7 < x
  · by_cases h0 : w < 0
    · simp +decide only [b119_0, b119_4, b119_7, b119_16, S.n, S.k, S.r, hp_n_wi, hp_k_wi, hp_r_wi, hp_n_wl, hp_k_wl, hp_r_wl, hp_n_wb, hp_k_wb, hp_r_wb, zq_rf, kx_0, kx_1, kx_2, kx_3, kx_4, kx_5, kx_6, kx_7, kx_8, kx_9, kx_10, kx_11, kx_12, kx_13, kx_14, kx_15, kx_16, kx_17, kx_33, kx_34, kx_50, kx_66, kx_67, kx_68, kx_69, kx_197, kx_198, kx_199, kx_200, kx_201, kx_202, kx_203, kx_204, kx_205, kx_206, kx_207, kx_208, kx_209, kx_210, rx_0_0, rx_0_1, rx_0_2, rx_0_3, rx_0_4, rx_0_5, rx_0_6, rx_0_7, rx_1_0, rx_1_1, rx_2_3, rx_2_4, rx_2_5, rx_2_6, rx_2_7, rx_2_8, rx_2_9, rx_10_0, rx_10_1, rx_10_2, rx_33_0, rx_33_1, rx_67_0, rx_68_0, rx_197_0, rx_199_5, rx_199_6, rx_199_7, rx_203_0, rx_203_1, rx_203_2, rx_206_0, rx_206_1, rx_206_2, rx_206_3, Option.bind_some, Option.toList_some, Option.toList_none, List.cons_append, List.nil_append, ↓reduceIte, p_135, decide_eq_true hv, zi_bI_t, if_pos h0]
    · have h4 : 4 < w := Classical.byContradiction (fun q => A ⟨hv, h0, q⟩)
      simp +decide only [b119_0, b119_4, b119_7, b119_11, b119_16, S.n, S.k, S.r, hp_n_wi, hp_k_wi, hp_r_wi, hp_n_wl, hp_k_wl, hp_r_wl, hp_n_wb, hp_k_wb, hp_r_wb, zq_rf, kx_0, kx_1, kx_2, kx_3, kx_4, kx_5, kx_6, kx_7, kx_8, kx_9, kx_10, kx_11, kx_12, kx_13, kx_14, kx_15, kx_16, kx_17, kx_33, kx_34, kx_50, kx_66, kx_67, kx_68, kx_69, kx_197, kx_198, kx_199, kx_200, kx_201, kx_202, kx_203, kx_204, kx_205, kx_206, kx_207, kx_208, kx_209, kx_210, rx_0_0, rx_0_1, rx_0_2, rx_0_3, rx_0_4, rx_0_5, rx_0_6, rx_0_7, rx_1_0, rx_1_1, rx_2_3, rx_2_4, rx_2_5, rx_2_6, rx_2_7, rx_2_8, rx_2_9, rx_10_0, rx_10_1, rx_10_2, rx_33_0, rx_33_1, rx_67_0, rx_68_0, rx_197_0, rx_199_5, rx_199_6, rx_199_7, rx_203_0, rx_203_1, rx_203_2, rx_206_0, rx_206_1, rx_206_2, rx_206_3, Option.bind_some, Option.toList_some, Option.toList_none, List.cons_append, List.nil_append, ↓reduceIte, p_135, decide_eq_true hv, zi_bI_t, if_neg h0, if_pos h4]
  · simp +decide only [b119_0, b119_4, b119_16, S.n, S.k, S.r, hp_n_wi, hp_k_wi, hp_r_wi, hp_n_wl, hp_k_wl, hp_r_wl, hp_n_wb, hp_k_wb, hp_r_wb, zq_rf, kx_0, kx_1, kx_2, kx_3, kx_4, kx_5, kx_6, kx_7, kx_8, kx_9, kx_10, kx_11, kx_12, kx_13, kx_14, kx_15, kx_16, kx_17, kx_33, kx_34, kx_50, kx_66, kx_67, kx_68, kx_69, kx_197, kx_198, kx_199, kx_200, kx_201, kx_202, kx_203, kx_204, kx_205, kx_206, kx_207, kx_208, kx_209, kx_210, rx_0_0, rx_0_1, rx_0_2, rx_0_3, rx_0_4, rx_0_5, rx_0_6, rx_0_7, rx_1_0, rx_1_1, rx_2_3, rx_2_4, rx_2_5, rx_2_6, rx_2_7, rx_2_8, rx_2_9, rx_10_0, rx_10_1, rx_10_2, rx_33_0, rx_33_1, rx_67_0, rx_68_0, rx_197_0, rx_199_5, rx_199_6, rx_199_7, rx_203_0, rx_203_1, rx_203_2, rx_206_0, rx_206_1, rx_206_2, rx_206_3, Option.bind_some, Option.toList_some, Option.toList_none, List.cons_append, List.nil_append, ↓reduceIte, p_135, decide_eq_false hv, zi_bI_f]
theorem rgo {a b : Nat} (hb : b < 1000) (hab : a ≤ b) : nI 0 ≤ nI a ∧ nI a ≤ nI b := ⟨Int32.not_lt.mp (nI_pos (by omega)), Int32.not_lt.mp (fun q => by rw [nI_lt' (by omega) (by omega)] at q; omega)⟩
theorem j_rows (O : GO hc) (S : Sh hr) (G : Gs (wx hc 1) (wy hc 1) (zh_i hr 212)) (x w : Int32) : ∃ v hc' hr', zv 17 119 0 [.ref 0, .int x, .int w] [] hc = some (some (.int v), hc') ∧ zv 8 218 0 [.ref 211, .int x, .int w] [] hr = some (some (.int v), hr') := by
  by_cases A : (¬ x < 0 ∧ ¬ 7 < x) ∧ ¬ w < 0 ∧ ¬ 4 < w
  · obtain ⟨hv, h0, h4⟩ := A
    obtain ⟨n, hn, rfl⟩ := nI_ex' (b := 7) (by decide) hv.1 hv.2
    obtain ⟨k, hk, rfl⟩ := nI_ex' (b := 4) (by decide) h0 h4
    obtain ⟨hc', hr', e, Sc', er, Sr', t1, t2, t3, t4, t5⟩ := j_wr O S G hn
    have go : zv 17 119 0 [.ref 0, .int (nI n), .int (nI k)] [] hc = zv 17 119 34 [.ref 0, .int (nI n), .int (nI k)] [] hc' := by
      have S := O.1
      simp +decide only [b119_0, b119_4, b119_7, b119_11, b119_18, S.n, S.k, S.r, hp_n_wi, hp_k_wi, hp_r_wi, hp_n_wl, hp_k_wl, hp_r_wl, hp_n_wb, hp_k_wb, hp_r_wb, zq_rf, kx_0, kx_1, kx_2, kx_3, kx_4, kx_5, kx_6, kx_7, kx_8, kx_9, kx_10, kx_11, kx_12, kx_13, kx_14, kx_15, kx_16, kx_17, kx_33, kx_34, kx_50, kx_66, kx_67, kx_68, kx_69, kx_197, kx_198, kx_199, kx_200, kx_201, kx_202, kx_203, kx_204, kx_205, kx_206, kx_207, kx_208, kx_209, kx_210, rx_0_0, rx_0_1, rx_0_2, rx_0_3, rx_0_4, rx_0_5, rx_0_6, rx_0_7, rx_1_0, rx_1_1, rx_2_3, rx_2_4, rx_2_5, rx_2_6, rx_2_7, rx_2_8, rx_2_9, rx_10_0, rx_10_1, rx_10_2, rx_33_0, rx_33_1, rx_67_0, rx_68_0, rx_197_0, rx_199_5, rx_199_6, rx_199_7, rx_203_0, rx_203_1, rx_203_2, rx_206_0, rx_206_1, rx_206_2, rx_206_3, Option.bind_some, Option.toList_some, Option.toList_none, List.cons_append, List.nil_append, ↓reduceIte, p_135, decide_eq_true hv, zi_bI_t, if_neg h0, if_neg h4, e]
    have ro : zv 8 218 0 [.ref 211, .int (nI n), .int (nI k)] [] hr = zv 8 218 31 [.ref 211, .int (nI n), .int (nI k)] [] hr' := by
      rw [b218_0, show (0 : Int64) = (nI 0).toInt64 from rfl, show (7 : Int64) = (nI 7).toInt64 from rfl, c_iy (rgo (by decide) hn)]
      simp only [Option.bind_some, Option.toList_some, Option.toList_none, List.cons_append, List.nil_append]
      rw [b218_9, if_neg (by decide), b218_12, show (0 : Int64) = (nI 0).toInt64 from rfl, show (4 : Int64) = (nI 4).toInt64 from rfl, c_iy (rgo (by decide) hk)]
      simp only [Option.bind_some, Option.toList_some, Option.toList_none, List.cons_append, List.nil_append]
      rw [b218_21, if_neg (by decide), b218_26 (S_g0 S) (S_g1 S), er]
      simp only [Option.bind_some, Option.toList_some, Option.toList_none, List.cons_append, List.nil_append]
    rw [go, ro]
    have S := Sc'
    have S1 := Sr'
    have : k = 0 ∨ k = 1 ∨ k = 2 ∨ k = 3 ∨ k = 4 := by omega
    rcases this with rfl | rfl | rfl | rfl | rfl
    · refine ⟨zh_i hc' 67 1, hc', hr', ?_, by rw [b218_31_c0 (x2 := nI 0) rfl, b218_64 (S_g0 S1) (S_g1 S1), t1]⟩
      rw [b119_34_c0 (x2 := nI 0) rfl]; simp +decide only [b119_64, S.n, S.k, S.r, hp_n_wi, hp_k_wi, hp_r_wi, hp_n_wl, hp_k_wl, hp_r_wl, hp_n_wb, hp_k_wb, hp_r_wb, zq_rf, kx_0, kx_1, kx_2, kx_3, kx_4, kx_5, kx_6, kx_7, kx_8, kx_9, kx_10, kx_11, kx_12, kx_13, kx_14, kx_15, kx_16, kx_17, kx_33, kx_34, kx_50, kx_66, kx_67, kx_68, kx_69, kx_197, kx_198, kx_199, kx_200, kx_201, kx_202, kx_203, kx_204, kx_205, kx_206, kx_207, kx_208, kx_209, kx_210, rx_0_0, rx_0_1, rx_0_2, rx_0_3, rx_0_4, rx_0_5, rx_0_6, rx_0_7, rx_1_0, rx_1_1, rx_2_3, rx_2_4, rx_2_5, rx_2_6, rx_2_7, rx_2_8, rx_2_9, rx_10_0, rx_10_1, rx_10_2, rx_33_0, rx_33_1, rx_67_0, rx_68_0, rx_197_0, rx_199_5, rx_199_6, rx_199_7, rx_203_0, rx_203_1, rx_203_2, rx_206_0, rx_206_1, rx_206_2, rx_206_3, Option.bind_some, Option.toList_some, Option.toList_none, List.cons_append, List.nil_append, ↓reduceIte]
    · refine ⟨zh_i hc' 67 2, hc', hr', ?_, by rw [b218_31_c1 (x2 := nI 1) rfl, b218_69 (S_g0 S1) (S_g1 S1), t2]⟩
      rw [b119_34_c1 (x2 := nI 1) rfl]; simp +decide only [b119_72, S.n, S.k, S.r, hp_n_wi, hp_k_wi, hp_r_wi, hp_n_wl, hp_k_wl, hp_r_wl, hp_n_wb, hp_k_wb, hp_r_wb, zq_rf, kx_0, kx_1, kx_2, kx_3, kx_4, kx_5, kx_6, kx_7, kx_8, kx_9, kx_10, kx_11, kx_12, kx_13, kx_14, kx_15, kx_16, kx_17, kx_33, kx_34, kx_50, kx_66, kx_67, kx_68, kx_69, kx_197, kx_198, kx_199, kx_200, kx_201, kx_202, kx_203, kx_204, kx_205, kx_206, kx_207, kx_208, kx_209, kx_210, rx_0_0, rx_0_1, rx_0_2, rx_0_3, rx_0_4, rx_0_5, rx_0_6, rx_0_7, rx_1_0, rx_1_1, rx_2_3, rx_2_4, rx_2_5, rx_2_6, rx_2_7, rx_2_8, rx_2_9, rx_10_0, rx_10_1, rx_10_2, rx_33_0, rx_33_1, rx_67_0, rx_68_0, rx_197_0, rx_199_5, rx_199_6, rx_199_7, rx_203_0, rx_203_1, rx_203_2, rx_206_0, rx_206_1, rx_206_2, rx_206_3, Option.bind_some, Option.toList_some, Option.toList_none, List.cons_append, List.nil_append, ↓reduceIte]
    · refine ⟨zh_i hc' 67 3, hc', hr', ?_, by rw [b218_31_c2 (x2 := nI 2) rfl, b218_74 (S_g0 S1) (S_g1 S1), t3]⟩
      rw [b119_34_c2 (x2 := nI 2) rfl]; simp +decide only [b119_80, S.n, S.k, S.r, hp_n_wi, hp_k_wi, hp_r_wi, hp_n_wl, hp_k_wl, hp_r_wl, hp_n_wb, hp_k_wb, hp_r_wb, zq_rf, kx_0, kx_1, kx_2, kx_3, kx_4, kx_5, kx_6, kx_7, kx_8, kx_9, kx_10, kx_11, kx_12, kx_13, kx_14, kx_15, kx_16, kx_17, kx_33, kx_34, kx_50, kx_66, kx_67, kx_68, kx_69, kx_197, kx_198, kx_199, kx_200, kx_201, kx_202, kx_203, kx_204, kx_205, kx_206, kx_207, kx_208, kx_209, kx_210, rx_0_0, rx_0_1, rx_0_2, rx_0_3, rx_0_4, rx_0_5, rx_0_6, rx_0_7, rx_1_0, rx_1_1, rx_2_3, rx_2_4, rx_2_5, rx_2_6, rx_2_7, rx_2_8, rx_2_9, rx_10_0, rx_10_1, rx_10_2, rx_33_0, rx_33_1, rx_67_0, rx_68_0, rx_197_0, rx_199_5, rx_199_6, rx_199_7, rx_203_0, rx_203_1, rx_203_2, rx_206_0, rx_206_1, rx_206_2, rx_206_3, Option.bind_some, Option.toList_some, Option.toList_none, List.cons_append, List.nil_append, ↓reduceIte]
    · refine ⟨zh_i hc' 67 4, hc', hr', ?_, by rw [b218_31_c3 (x2 := nI 3) rfl, b218_79 (S_g0 S1) (S_g1 S1), t4]⟩
      rw [b119_34_c3 (x2 := nI 3) rfl]; simp +decide only [b119_88, S.n, S.k, S.r, hp_n_wi, hp_k_wi, hp_r_wi, hp_n_wl, hp_k_wl, hp_r_wl, hp_n_wb, hp_k_wb, hp_r_wb, zq_rf, kx_0, kx_1, kx_2, kx_3, kx_4, kx_5, kx_6, kx_7, kx_8, kx_9, kx_10, kx_11, kx_12, kx_13, kx_14, kx_15, kx_16, kx_17, kx_33, kx_34, kx_50, kx_66, kx_67, kx_68, kx_69, kx_197, kx_198, kx_199, kx_200, kx_201, kx_202, kx_203, kx_204, kx_205, kx_206, kx_207, kx_208, kx_209, kx_210, rx_0_0, rx_0_1, rx_0_2, rx_0_3, rx_0_4, rx_0_5, rx_0_6, rx_0_7, rx_1_0, rx_1_1, rx_2_3, rx_2_4, rx_2_5, rx_2_6, rx_2_7, rx_2_8, rx_2_9, rx_10_0, rx_10_1, rx_10_2, rx_33_0, rx_33_1, rx_67_0, rx_68_0, rx_197_0, rx_199_5, rx_199_6, rx_199_7, rx_203_0, rx_203_1, rx_203_2, rx_206_0, rx_206_1, rx_206_2, rx_206_3, Option.bind_some, Option.toList_some, Option.toList_none, List.cons_append, List.nil_append, ↓reduceIte]
    · refine ⟨zh_i hc' 67 5, hc', hr', ?_, by rw [b218_31_d (x2 := nI 4) (by decide), b218_84 (S_g0 S1) (S_g1 S1), t5]⟩
      rw [b119_34_d (x2 := nI 4) (Or.inr (by decide))]; simp +decide only [b119_96, S.n, S.k, S.r, hp_n_wi, hp_k_wi, hp_r_wi, hp_n_wl, hp_k_wl, hp_r_wl, hp_n_wb, hp_k_wb, hp_r_wb, zq_rf, kx_0, kx_1, kx_2, kx_3, kx_4, kx_5, kx_6, kx_7, kx_8, kx_9, kx_10, kx_11, kx_12, kx_13, kx_14, kx_15, kx_16, kx_17, kx_33, kx_34, kx_50, kx_66, kx_67, kx_68, kx_69, kx_197, kx_198, kx_199, kx_200, kx_201, kx_202, kx_203, kx_204, kx_205, kx_206, kx_207, kx_208, kx_209, kx_210, rx_0_0, rx_0_1, rx_0_2, rx_0_3, rx_0_4, rx_0_5, rx_0_6, rx_0_7, rx_1_0, rx_1_1, rx_2_3, rx_2_4, rx_2_5, rx_2_6, rx_2_7, rx_2_8, rx_2_9, rx_10_0, rx_10_1, rx_10_2, rx_33_0, rx_33_1, rx_67_0, rx_68_0, rx_197_0, rx_199_5, rx_199_6, rx_199_7, rx_203_0, rx_203_1, rx_203_2, rx_206_0, rx_206_1, rx_206_2, rx_206_3, Option.bind_some, Option.toList_some, Option.toList_none, List.cons_append, List.nil_append, ↓reduceIte]
  · refine ⟨-1, hc, hr, c_row0 O.1 A, ?_⟩
    rw [b218_0, show (0 : Int64) = (nI 0).toInt64 from rfl, show (7 : Int64) = (nI 7).toInt64 from rfl]
    rcases in_or x 0 7 (by decide) (by decide) with ⟨n, -, hn, rfl, hx⟩ | hx
    · rw [c_iy hx]
      simp only [Option.bind_some, Option.toList_some, Option.toList_none, List.cons_append, List.nil_append]
      rw [b218_9, if_neg (by decide), b218_12, show (0 : Int64) = (nI 0).toInt64 from rfl, show (4 : Int64) = (nI 4).toInt64 from rfl]
      rcases in_or w 0 4 (by decide) (by decide) with ⟨k, -, hk, rfl, hw⟩ | hw
      · exact absurd ⟨⟨nI_pos (by omega), fun q => by rw [show (7 : Int32) = nI 7 from rfl, nI_lt' (by omega) (by omega)] at q; omega⟩, nI_pos (by omega), fun q => by rw [show (4 : Int32) = nI 4 from rfl, nI_lt' (by omega) (by omega)] at q; omega⟩ A
      · rw [c_iz hw]
        simp only [Option.bind_some, Option.toList_some, Option.toList_none, List.cons_append, List.nil_append]
        rw [b218_21, if_pos rfl, b218_24]
    · rw [c_iz hx]
      simp only [Option.bind_some, Option.toList_some, Option.toList_none, List.cons_append, List.nil_append]
      rw [b218_9, if_pos rfl, b218_24]
theorem a_rowsx (R : R3 L h) (x w : Int32) : Al L h (zv 17 119 0 [.ref 0, .int x, .int w] [] h) (fun m => zv 8 218 0 [.ref 211, .int x, .int w] [] m) := R.wkx (c_roww R.2.1 x w) (fun O => o_rowq O x w) (fun S G => j_rows R.2.1 S G x w)
end R34Z9
end
