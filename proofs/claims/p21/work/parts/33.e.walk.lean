/-! THE CLASS: all rows of steps -/
section R33E
variable {h h1 : zi_Hp} {W : Nat}
theorem CV.tr {o : Option zi_Rt} (F : Fc h h1) (c : CV h1 o) : CV h o := by
  obtain ⟨h', e, O', F'⟩ := c
  exact ⟨h', e, O', F.trans F'⟩
theorem w_100 (O : GO h) (V : Wa W) : ∃ v, zv 1 100 0 [.ref W, .double 0, .double 0] [] h = some (some (.int v), h) := by
  have e := k_ar O.1 V (x := wx h W) (y := wy h W) (u1 := .double 0) (u2 := .double 0)
  rw [zC_wx] at e; exact ⟨_, e⟩
theorem w_101 (O : GO h) (V : Wa W) : ∃ v, zv 2 101 0 [.ref W, .double 0] [] h = some (some (.int v), h) := by
  obtain ⟨b, e, -⟩ := k_dn O.1 V (x := wx h W) (y := wy h W) (u1 := .double 0)
  rw [zC_wx] at e; exact ⟨_, e⟩
theorem w_102 (O : GO h) (V : Wa W) : ∃ v, zv 2 102 0 [.ref W, .double 0] [] h = some (some (.int v), h) := by
  obtain ⟨b, e, -⟩ := k_hu O.1 V (x := wx h W) (y := wy h W) (u1 := .double 0)
  rw [zC_wx] at e; exact ⟨_, e⟩
theorem w_103 (O : GO h) (V : Wa W) (c a : Int32) : ∃ v, zv 2 103 0 [.ref W, .int c, .int a] [] h = some (some (.int v), h) := by
  obtain ⟨b, e, -⟩ := k_ha O.1 V (x := wx h W) (y := wy h W) (v := c) (a := a)
  rw [zC_wx] at e; exact ⟨_, e⟩
section
variable {x2 : Int32} {y3 : Int64}
theorem ta_129 (O : GO h) (V : Wa W) : CV h (zv 3 73 129 [.ref 67, .ref W, .int x2, .long y3, .double 1] [] h) := ⟨h, by rw [b73_129], O, Fc.refl h⟩
theorem ta_118 (O : GO h) (V : Wa W) : CV h (zv 3 73 118 [.ref 67, .ref W, .int x2, .long y3, .double 1] [.ref 67] h) := by
  obtain ⟨S, -⟩ := id O
  rw [b73_118 (by first | (rw [S.n]; decide) | (rw [S.k, kx_67]; done) | (rw [S.n]; have := V.lt; omega) | (rw [wk_0 S V]; done) | (rw [wr_0_0 S V, zq_rf]; done) | (rw [wr_0_0 S V, zq_rf, S.n]; have := V.lt; omega) | (rw [wr_0_0 S V, zq_rf, wk_1 S V])) (by first | (rw [S.n]; decide) | (rw [S.k, kx_67]; done) | (rw [S.n]; have := V.lt; omega) | (rw [wk_0 S V]; done) | (rw [wr_0_0 S V, zq_rf]; done) | (rw [wr_0_0 S V, zq_rf, S.n]; have := V.lt; omega) | (rw [wr_0_0 S V, zq_rf, wk_1 S V]))]
  split
  · rw [b73_124 (by first | (rw [S.n]; decide) | (rw [S.k, kx_67]; done) | (rw [S.n]; have := V.lt; omega) | (rw [wk_0 S V]; done) | (rw [wr_0_0 S V, zq_rf]; done) | (rw [wr_0_0 S V, zq_rf, S.n]; have := V.lt; omega) | (rw [wr_0_0 S V, zq_rf, wk_1 S V])) (by first | (rw [S.n]; decide) | (rw [S.k, kx_67]; done) | (rw [S.n]; have := V.lt; omega) | (rw [wk_0 S V]; done) | (rw [wr_0_0 S V, zq_rf]; done) | (rw [wr_0_0 S V, zq_rf, S.n]; have := V.lt; omega) | (rw [wr_0_0 S V, zq_rf, wk_1 S V]))]
    exact (ta_129 (O.wi wo_67) V).tr (Fc.wi (by decide))
  · exact ta_129 O V
theorem ta_94 (O : GO h) (V : Wa W) {v : Int32} : CV h (zv 3 73 94 [.ref 67, .ref W, .int x2, .long y3, .double 1] [.int v] h) := by
  obtain ⟨S, -⟩ := id O
  rw [b73_94]
  split
  · exact ta_129 O V
  · rw [b73_97 (by first | (rw [S.n]; decide) | (rw [S.k, kx_67]; done) | (rw [S.n]; have := V.lt; omega) | (rw [wk_0 S V]; done) | (rw [wr_0_0 S V, zq_rf]; done) | (rw [wr_0_0 S V, zq_rf, S.n]; have := V.lt; omega) | (rw [wr_0_0 S V, zq_rf, wk_1 S V])) (by first | (rw [S.n]; decide) | (rw [S.k, kx_67]; done) | (rw [S.n]; have := V.lt; omega) | (rw [wk_0 S V]; done) | (rw [wr_0_0 S V, zq_rf]; done) | (rw [wr_0_0 S V, zq_rf, S.n]; have := V.lt; omega) | (rw [wr_0_0 S V, zq_rf, wk_1 S V]))]
    have O1 : GO (zh_wi h 67 6 (zh_i h 67 6 + 1)) := O.wi wo_67
    refine CV.tr (h1 := zh_wi h 67 6 (zh_i h 67 6 + 1)) (Fc.wi (by decide)) ?_
    generalize zh_wi h 67 6 (zh_i h 67 6 + 1) = h1 at O1
    obtain ⟨S, -⟩ := id O1
    rw [b73_109 (by first | (rw [S.n]; decide) | (rw [S.k, kx_67]; done) | (rw [S.n]; have := V.lt; omega) | (rw [wk_0 S V]; done) | (rw [wr_0_0 S V, zq_rf]; done) | (rw [wr_0_0 S V, zq_rf, S.n]; have := V.lt; omega) | (rw [wr_0_0 S V, zq_rf, wk_1 S V])) (by first | (rw [S.n]; decide) | (rw [S.k, kx_67]; done) | (rw [S.n]; have := V.lt; omega) | (rw [wk_0 S V]; done) | (rw [wr_0_0 S V, zq_rf]; done) | (rw [wr_0_0 S V, zq_rf, S.n]; have := V.lt; omega) | (rw [wr_0_0 S V, zq_rf, wk_1 S V])) (by first | (rw [S.n]; decide) | (rw [S.k, kx_67]; done) | (rw [S.n]; have := V.lt; omega) | (rw [wk_0 S V]; done) | (rw [wr_0_0 S V, zq_rf]; done) | (rw [wr_0_0 S V, zq_rf, S.n]; have := V.lt; omega) | (rw [wr_0_0 S V, zq_rf, wk_1 S V])) (by first | (rw [S.n]; decide) | (rw [S.k, kx_67]; done) | (rw [S.n]; have := V.lt; omega) | (rw [wk_0 S V]; done) | (rw [wr_0_0 S V, zq_rf]; done) | (rw [wr_0_0 S V, zq_rf, S.n]; have := V.lt; omega) | (rw [wr_0_0 S V, zq_rf, wk_1 S V]))]
    exact (ta_118 O1.wl V).tr (Fc.wl (by decide))
theorem ta_82 (O : GO h) (V : Wa W) : CV h (zv 3 73 82 [.ref 67, .ref W, .int x2, .long y3, .double 1] [] h) := by
  obtain ⟨S, -⟩ := id O
  obtain ⟨v, e⟩ := w_103 O V (zh_i h 67 11) (zh_i h 67 12)
  rw [b73_82 (by first | (rw [S.n]; decide) | (rw [S.k, kx_67]; done) | (rw [S.n]; have := V.lt; omega) | (rw [wk_0 S V]; done) | (rw [wr_0_0 S V, zq_rf]; done) | (rw [wr_0_0 S V, zq_rf, S.n]; have := V.lt; omega) | (rw [wr_0_0 S V, zq_rf, wk_1 S V])) (by first | (rw [S.n]; decide) | (rw [S.k, kx_67]; done) | (rw [S.n]; have := V.lt; omega) | (rw [wk_0 S V]; done) | (rw [wr_0_0 S V, zq_rf]; done) | (rw [wr_0_0 S V, zq_rf, S.n]; have := V.lt; omega) | (rw [wr_0_0 S V, zq_rf, wk_1 S V])) (by first | (rw [S.n]; decide) | (rw [S.k, kx_67]; done) | (rw [S.n]; have := V.lt; omega) | (rw [wk_0 S V]; done) | (rw [wr_0_0 S V, zq_rf]; done) | (rw [wr_0_0 S V, zq_rf, S.n]; have := V.lt; omega) | (rw [wr_0_0 S V, zq_rf, wk_1 S V])) (by first | (rw [S.n]; decide) | (rw [S.k, kx_67]; done) | (rw [S.n]; have := V.lt; omega) | (rw [wk_0 S V]; done) | (rw [wr_0_0 S V, zq_rf]; done) | (rw [wr_0_0 S V, zq_rf, S.n]; have := V.lt; omega) | (rw [wr_0_0 S V, zq_rf, wk_1 S V])), e]
  simp only [Option.bind_some, Option.toList_some, Option.toList_none, List.cons_append, List.nil_append]
  exact ta_94 O V
theorem ta_69 (O : GO h) (V : Wa W) {v : Int32} : CV h (zv 3 73 69 [.ref 67, .ref W, .int x2, .long y3, .double 1] [.int v] h) := by
  obtain ⟨S, -⟩ := id O
  rw [b73_69]
  split
  · exact ta_82 O V
  · rw [b73_72 (by first | (rw [S.n]; decide) | (rw [S.k, kx_67]; done) | (rw [S.n]; have := V.lt; omega) | (rw [wk_0 S V]; done) | (rw [wr_0_0 S V, zq_rf]; done) | (rw [wr_0_0 S V, zq_rf, S.n]; have := V.lt; omega) | (rw [wr_0_0 S V, zq_rf, wk_1 S V])) (by first | (rw [S.n]; decide) | (rw [S.k, kx_67]; done) | (rw [S.n]; have := V.lt; omega) | (rw [wk_0 S V]; done) | (rw [wr_0_0 S V, zq_rf]; done) | (rw [wr_0_0 S V, zq_rf, S.n]; have := V.lt; omega) | (rw [wr_0_0 S V, zq_rf, wk_1 S V]))]
    exact (ta_82 (O.wi wo_67) V).tr (Fc.wi (by decide))
theorem ta_47 (O : GO h) (V : Wa W) : CV h (zv 3 73 47 [.ref 67, .ref W, .int x2, .long y3, .double 1] [.ref 67, .ref 67] h) := by
  obtain ⟨S, -⟩ := id O
  obtain ⟨v, e⟩ := w_100 O V
  rw [b73_47 (by first | (rw [S.n]; decide) | (rw [S.k, kx_67]; done) | (rw [S.n]; have := V.lt; omega) | (rw [wk_0 S V]; done) | (rw [wr_0_0 S V, zq_rf]; done) | (rw [wr_0_0 S V, zq_rf, S.n]; have := V.lt; omega) | (rw [wr_0_0 S V, zq_rf, wk_1 S V])) (by first | (rw [S.n]; decide) | (rw [S.k, kx_67]; done) | (rw [S.n]; have := V.lt; omega) | (rw [wk_0 S V]; done) | (rw [wr_0_0 S V, zq_rf]; done) | (rw [wr_0_0 S V, zq_rf, S.n]; have := V.lt; omega) | (rw [wr_0_0 S V, zq_rf, wk_1 S V])) (by first | (rw [S.n]; decide) | (rw [S.k, kx_67]; done) | (rw [S.n]; have := V.lt; omega) | (rw [wk_0 S V]; done) | (rw [wr_0_0 S V, zq_rf]; done) | (rw [wr_0_0 S V, zq_rf, S.n]; have := V.lt; omega) | (rw [wr_0_0 S V, zq_rf, wk_1 S V])) (by first | (rw [S.n]; decide) | (rw [S.k, kx_67]; done) | (rw [S.n]; have := V.lt; omega) | (rw [wk_0 S V]; done) | (rw [wr_0_0 S V, zq_rf]; done) | (rw [wr_0_0 S V, zq_rf, S.n]; have := V.lt; omega) | (rw [wr_0_0 S V, zq_rf, wk_1 S V])), e]
  simp only [Option.bind_some, Option.toList_some, Option.toList_none, List.cons_append, List.nil_append]
  rw [b73_54 (by first | (rw [S.n]; decide) | (rw [S.k, kx_67]; done) | (rw [S.n]; have := V.lt; omega) | (rw [wk_0 S V]; done) | (rw [wr_0_0 S V, zq_rf]; done) | (rw [wr_0_0 S V, zq_rf, S.n]; have := V.lt; omega) | (rw [wr_0_0 S V, zq_rf, wk_1 S V])) (by first | (rw [S.n]; decide) | (rw [S.k, kx_67]; done) | (rw [S.n]; have := V.lt; omega) | (rw [wk_0 S V]; done) | (rw [wr_0_0 S V, zq_rf]; done) | (rw [wr_0_0 S V, zq_rf, S.n]; have := V.lt; omega) | (rw [wr_0_0 S V, zq_rf, wk_1 S V])) (by first | (rw [S.n]; decide) | (rw [S.k, kx_67]; done) | (rw [S.n]; have := V.lt; omega) | (rw [wk_0 S V]; done) | (rw [wr_0_0 S V, zq_rf]; done) | (rw [wr_0_0 S V, zq_rf, S.n]; have := V.lt; omega) | (rw [wr_0_0 S V, zq_rf, wk_1 S V])) (by first | (rw [S.n]; decide) | (rw [S.k, kx_67]; done) | (rw [S.n]; have := V.lt; omega) | (rw [wk_0 S V]; done) | (rw [wr_0_0 S V, zq_rf]; done) | (rw [wr_0_0 S V, zq_rf, S.n]; have := V.lt; omega) | (rw [wr_0_0 S V, zq_rf, wk_1 S V])) (by first | (rw [S.n]; decide) | (rw [S.k, kx_67]; done) | (rw [S.n]; have := V.lt; omega) | (rw [wk_0 S V]; done) | (rw [wr_0_0 S V, zq_rf]; done) | (rw [wr_0_0 S V, zq_rf, S.n]; have := V.lt; omega) | (rw [wr_0_0 S V, zq_rf, wk_1 S V])) (by first | (rw [S.n]; decide) | (rw [S.k, kx_67]; done) | (rw [S.n]; have := V.lt; omega) | (rw [wk_0 S V]; done) | (rw [wr_0_0 S V, zq_rf]; done) | (rw [wr_0_0 S V, zq_rf, S.n]; have := V.lt; omega) | (rw [wr_0_0 S V, zq_rf, wk_1 S V]))]
  generalize (if zh_i h 67 4 < v - zh_i h 67 10 then v - zh_i h 67 10 else zh_i h 67 4) = w
  have O1 : GO (zh_wi h 67 4 w) := O.wi wo_67
  obtain ⟨v2, e2⟩ := w_102 O1 V
  rw [e2]
  simp only [Option.bind_some, Option.toList_some, Option.toList_none, List.cons_append, List.nil_append]
  exact (ta_69 O1 V).tr (Fc.wi (by decide))
theorem ta_27 (O : GO h) (V : Wa W) : CV h (zv 3 73 27 [.ref 67, .ref W, .int x2, .long y3, .double 1] [] h) := by
  obtain ⟨S, -⟩ := id O
  rw [b73_27 (by first | (rw [S.n]; decide) | (rw [S.k, kx_67]; done) | (rw [S.n]; have := V.lt; omega) | (rw [wk_0 S V]; done) | (rw [wr_0_0 S V, zq_rf]; done) | (rw [wr_0_0 S V, zq_rf, S.n]; have := V.lt; omega) | (rw [wr_0_0 S V, zq_rf, wk_1 S V])) (by first | (rw [S.n]; decide) | (rw [S.k, kx_67]; done) | (rw [S.n]; have := V.lt; omega) | (rw [wk_0 S V]; done) | (rw [wr_0_0 S V, zq_rf]; done) | (rw [wr_0_0 S V, zq_rf, S.n]; have := V.lt; omega) | (rw [wr_0_0 S V, zq_rf, wk_1 S V])) (by first | (rw [S.n]; decide) | (rw [S.k, kx_67]; done) | (rw [S.n]; have := V.lt; omega) | (rw [wk_0 S V]; done) | (rw [wr_0_0 S V, zq_rf]; done) | (rw [wr_0_0 S V, zq_rf, S.n]; have := V.lt; omega) | (rw [wr_0_0 S V, zq_rf, wk_1 S V])) (by first | (rw [S.n]; decide) | (rw [S.k, kx_67]; done) | (rw [S.n]; have := V.lt; omega) | (rw [wk_0 S V]; done) | (rw [wr_0_0 S V, zq_rf]; done) | (rw [wr_0_0 S V, zq_rf, S.n]; have := V.lt; omega) | (rw [wr_0_0 S V, zq_rf, wk_1 S V])) (by first | (rw [S.n]; decide) | (rw [S.k, kx_67]; done) | (rw [S.n]; have := V.lt; omega) | (rw [wk_0 S V]; done) | (rw [wr_0_0 S V, zq_rf]; done) | (rw [wr_0_0 S V, zq_rf, S.n]; have := V.lt; omega) | (rw [wr_0_0 S V, zq_rf, wk_1 S V])) (by first | (rw [S.n]; decide) | (rw [S.k, kx_67]; done) | (rw [S.n]; have := V.lt; omega) | (rw [wk_0 S V]; done) | (rw [wr_0_0 S V, zq_rf]; done) | (rw [wr_0_0 S V, zq_rf, S.n]; have := V.lt; omega) | (rw [wr_0_0 S V, zq_rf, wk_1 S V])) (by first | (rw [S.n]; decide) | (rw [S.k, kx_67]; done) | (rw [S.n]; have := V.lt; omega) | (rw [wk_0 S V]; done) | (rw [wr_0_0 S V, zq_rf]; done) | (rw [wr_0_0 S V, zq_rf, S.n]; have := V.lt; omega) | (rw [wr_0_0 S V, zq_rf, wk_1 S V]))]
  exact (ta_47 (O.wi wo_67) V).tr (Fc.wi (by decide))
theorem ta_0 (O : GO h) (V : Wa W) : CV h (zv 3 73 0 [.ref 67, .ref W, .int x2, .long y3, .double 1] [] h) := by
  obtain ⟨S, -⟩ := id O
  rw [b73_0 (by first | (rw [S.n]; decide) | (rw [S.k, kx_67]; done) | (rw [S.n]; have := V.lt; omega) | (rw [wk_0 S V]; done) | (rw [wr_0_0 S V, zq_rf]; done) | (rw [wr_0_0 S V, zq_rf, S.n]; have := V.lt; omega) | (rw [wr_0_0 S V, zq_rf, wk_1 S V])) (by first | (rw [S.n]; decide) | (rw [S.k, kx_67]; done) | (rw [S.n]; have := V.lt; omega) | (rw [wk_0 S V]; done) | (rw [wr_0_0 S V, zq_rf]; done) | (rw [wr_0_0 S V, zq_rf, S.n]; have := V.lt; omega) | (rw [wr_0_0 S V, zq_rf, wk_1 S V])) (by first | (rw [S.n]; decide) | (rw [S.k, kx_67]; done) | (rw [S.n]; have := V.lt; omega) | (rw [wk_0 S V]; done) | (rw [wr_0_0 S V, zq_rf]; done) | (rw [wr_0_0 S V, zq_rf, S.n]; have := V.lt; omega) | (rw [wr_0_0 S V, zq_rf, wk_1 S V])) (by first | (rw [S.n]; decide) | (rw [S.k, kx_67]; done) | (rw [S.n]; have := V.lt; omega) | (rw [wk_0 S V]; done) | (rw [wr_0_0 S V, zq_rf]; done) | (rw [wr_0_0 S V, zq_rf, S.n]; have := V.lt; omega) | (rw [wr_0_0 S V, zq_rf, wk_1 S V]))]
  have O1 : GO (zh_wi h 67 1 (zh_i h 67 1 + 1)) := O.wi wo_67
  refine CV.tr (h1 := zh_wi h 67 1 (zh_i h 67 1 + 1)) (Fc.wi (by decide)) ?_
  generalize zh_wi h 67 1 (zh_i h 67 1 + 1) = h1 at O1
  obtain ⟨v, e⟩ := w_101 O1 V
  rw [e]
  simp only [Option.bind_some, Option.toList_some, Option.toList_none, List.cons_append, List.nil_append]
  obtain ⟨S, -⟩ := id O1
  rw [b73_14]
  split
  · exact ta_27 O1 V
  · rw [b73_17 (by first | (rw [S.n]; decide) | (rw [S.k, kx_67]; done) | (rw [S.n]; have := V.lt; omega) | (rw [wk_0 S V]; done) | (rw [wr_0_0 S V, zq_rf]; done) | (rw [wr_0_0 S V, zq_rf, S.n]; have := V.lt; omega) | (rw [wr_0_0 S V, zq_rf, wk_1 S V])) (by first | (rw [S.n]; decide) | (rw [S.k, kx_67]; done) | (rw [S.n]; have := V.lt; omega) | (rw [wk_0 S V]; done) | (rw [wr_0_0 S V, zq_rf]; done) | (rw [wr_0_0 S V, zq_rf, S.n]; have := V.lt; omega) | (rw [wr_0_0 S V, zq_rf, wk_1 S V]))]
    exact (ta_27 (O1.wi wo_67) V).tr (Fc.wi (by decide))
end
theorem st_V {d : Nat} (hd : d < 8) : Wa (69 + 16 * d) := by unfold Wa; omega
theorem st_r (S : Sh h) {d : Nat} (hd : d < 8) : zh_r h 68 d = .ref (69 + 16 * d) := by
  have : d = 0 ∨ d = 1 ∨ d = 2 ∨ d = 3 ∨ d = 4 ∨ d = 5 ∨ d = 6 ∨ d = 7 := by omega
  rcases this with rfl | rfl | rfl | rfl | rfl | rfl | rfl | rfl
  · rw [S.r, rx_68_0]
  · rw [S.r, rx_68_1]
  · rw [S.r, rx_68_2]
  · rw [S.r, rx_68_3]
  · rw [S.r, rx_68_4]
  · rw [S.r, rx_68_5]
  · rw [S.r, rx_68_6]
  · rw [S.r, rx_68_7]
theorem bc_0 : zv 1 242 0 [.int 0] [] h = some (some (.int 0), h) := by rw [b242_0]; rfl
theorem bc_e (x : Int32) : ∃ v, zv 1 242 0 [.int x] [] h = some (some (.int v), h) := ⟨_, by rw [b242_0]⟩
theorem i64_nz {x : Int32} (hx : ¬ x = 0) : ¬ x.toInt64 = 0 := fun q => hx (by
  apply Int32.toInt_inj.mp
  have := congrArg Int64.toInt q
  rw [Int32.toInt_toInt64] at this
  exact this)
/-- the stack's world, and the row's end -/
theorem ex_t (O : GO h) {k d : Nat} (hd : d < 8) (hk : 3 < k) {x2 x6 x7 : Int32} {y3 : Int64} {u8 u9 : Value} : CV h (zv k 72 56 [.ref 67, .int (nI d), .int x2, .long y3, .double 1, .ref (69 + 16 * d), .int x6, .int x7, u8, u9] [] h) := by
  obtain ⟨S, -⟩ := id O
  have V := st_V hd
  obtain ⟨h', e, O', F'⟩ := ta_0 O V (x2 := x2) (y3 := y3)
  rw [b72_56 hk (by first | (rw [S.n]; decide) | (rw [S.k, kx_67]; done) | (rw [S.n]; have := V.lt; omega) | (rw [wk_0 S V]; done) | (rw [wr_0_0 S V, zq_rf]; done) | (rw [wr_0_0 S V, zq_rf, S.n]; have := V.lt; omega) | (rw [wr_0_0 S V, zq_rf, wk_1 S V])) (by first | (rw [S.n]; decide) | (rw [S.k, kx_67]; done) | (rw [S.n]; have := V.lt; omega) | (rw [wk_0 S V]; done) | (rw [wr_0_0 S V, zq_rf]; done) | (rw [wr_0_0 S V, zq_rf, S.n]; have := V.lt; omega) | (rw [wr_0_0 S V, zq_rf, wk_1 S V])), e]
  simp only [Option.bind_some, Option.toList_some, Option.toList_none, List.cons_append, List.nil_append]
  exact ⟨h', by rw [b72_64], O', F'⟩
theorem ex_a (S : Sh h) {k d : Nat} (hd : d < 8) {x2 : Int32} {y3 : Int64} {u5 u6 u7 u8 u9 : Value} : zv k 72 0 [.ref 67, .int (nI d), .int x2, .long y3, .double 1, u5, u6, u7, u8, u9] [] h = if nI d < zh_i h 67 9 then zv k 72 27 [.ref 67, .int (nI d), .int x2, .long y3, .double 1, .ref (69 + 16 * d), u6, u7, u8, u9] [] h else zv k 72 41 [.ref 67, .int (nI d), .int x2, .long y3, .double 1, .ref (69 + 16 * d), u6, u7, u8, u9] [] h := by
  have V := st_V hd
  have r0 : zh_r h 67 0 = .ref 68 := by rw [S.r, rx_67_0]
  have k8 : zh_k h 68 = (103, 8) := by rw [S.k, kx_68]
  have nc : (nI d).toNatClampNeg = d := nI_clamp (by omega)
  rw [b72_0, if_neg (nI_pos (by omega)), b72_4, if_neg (fun q => by rw [show (7 : Int32) = nI 7 from rfl, nI_lt' (by omega) (by omega)] at q; omega), b72_11 (by first | (rw [S.n]; decide) | (rw [S.k, kx_67]; done) | (rw [S.n]; have := V.lt; omega) | (rw [wk_0 S V]; done) | (rw [wr_0_0 S V, zq_rf]; done) | (rw [wr_0_0 S V, zq_rf, S.n]; have := V.lt; omega) | (rw [wr_0_0 S V, zq_rf, wk_1 S V])) (by first | (rw [S.n]; decide) | (rw [S.k, kx_67]; done) | (rw [S.n]; have := V.lt; omega) | (rw [wk_0 S V]; done) | (rw [wr_0_0 S V, zq_rf]; done) | (rw [wr_0_0 S V, zq_rf, S.n]; have := V.lt; omega) | (rw [wr_0_0 S V, zq_rf, wk_1 S V])) (by rw [r0, zq_rf]) (by rw [r0, zq_rf, S.n]; decide) (by rw [r0, zq_rf, k8]; exact zj_n hd (by decide)) (by rw [r0, zq_rf, k8]; exact Or.inl rfl) (by rw [r0, zq_rf, nc, st_r S hd, zq_rf]), r0, zq_rf, nc, st_r S hd, zq_rf]
theorem ex_z (O : GO h) {k d : Nat} (hd : d < 8) (hk : 3 < k) {x2 : Int32} {y3 : Int64} {u6 u7 u8 u9 : Value} : CV h (zv k 72 41 [.ref 67, .int (nI d), .int x2, .long y3, .double 1, .ref (69 + 16 * d), u6, u7, u8, u9] [] h) := by
  rw [b72_41, b72_42 (by omega), bc_0]
  simp only [Option.bind_some, Option.toList_some, Option.toList_none, List.cons_append, List.nil_append]
  rw [b72_49, if_pos rfl]
  exact ex_t O hd hk
theorem ex_g : ∀ e d, d + e = 7 → ∀ {h : zi_Hp}, GO h → ∀ {x2 : Int32} {y3 : Int64} {u5 u6 u7 u8 u9 : Value}, CV h (zv (6 + (8 - d)) 72 0 [.ref 67, .int (nI d), .int x2, .long y3, .double 1, u5, u6, u7, u8, u9] [] h)
  | 0, d, hd, h, O, x2, y3, u5, u6, u7, u8, u9 => by
    have e : d = 7 := by omega
    subst e
    rw [ex_a O.1 (by decide)]
    split
    · rw [b72_27, if_neg (by decide)]
      exact ex_z O (by decide) (by decide)
    · exact ex_z O (by decide) (by decide)
  | e + 1, d, hd, h, O, x2, y3, u5, u6, u7, u8, u9 => by
    obtain ⟨S, G⟩ := id O
    have V := st_V (d := d) (by omega)
    have V2 := st_V (d := d + 1) (by omega)
    have r0 : zh_r h 67 0 = .ref 68 := by rw [S.r, rx_67_0]
    have k8 : zh_k h 68 = (103, 8) := by rw [S.k, kx_68]
    have nc : (nI (d + 1)).toNatClampNeg = d + 1 := nI_clamp (by omega)
    have lp : ∀ q c, c + q = 3 → ∀ {h : zi_Hp}, GO h → ∀ {x6 x7 : Int32}, ¬ x7 = 0 → CV h (zv (6 + (8 - d)) 72 78 [.ref 67, .int (nI d), .int x2, .long y3, .double 1, .ref (69 + 16 * d), .int x6, .int x7, .ref (69 + 16 * (d + 1)), .int (nI c)] [] h) := by
      intro q
      induction q with
      | zero =>
        intro c hc h O x6 x7 h7
        have e : c = 3 := by omega
        subst e
        exact ⟨h, by rw [b72_78, if_neg (by decide), b72_134], O, Fc.refl h⟩
      | succ q ih =>
        intro c hc h O x6 x7 h7
        have nx : ∀ {h : zi_Hp}, GO h → CV h (zv (6 + (8 - d)) 72 128 [.ref 67, .int (nI d), .int x2, .long y3, .double 1, .ref (69 + 16 * d), .int x6, .int x7, .ref (69 + 16 * (d + 1)), .int (nI c)] [] h) := fun {h} O => by
          rw [b72_128, nI_s]; exact ih (c + 1) (by omega) O h7
        rw [b72_78, if_pos (show nI c < 3 from nI_lt (b := 3) (by omega) (by decide)), b72_84]
        split
        · exact nx O
        · obtain ⟨h1, e1, O1, F1⟩ := O.copy V2 V (by omega) (u := .double 0)
          obtain ⟨S1, G1⟩ := id O1
          obtain ⟨cd, x', y', e2, G2⟩ := (G1 _ V2).step S1 V2 (c := c) (by omega) (v2 := .double 0) (v3 := .double 0) (v4 := .double 0)
          rw [zC_wx] at e2
          have O2 : GO (zC h1 (69 + 16 * (d + 1)) x' y') := O1.zC V2 G2
          obtain ⟨h3, e3, O3, F3⟩ := ex_g e (d + 1) (by omega) O2 (x2 := x2 * 10 + nI c) (y3 := y3 / x7.toInt64) (u5 := .double 0) (u6 := .double 0) (u7 := .double 0) (u8 := .double 0) (u9 := .double 0)
          have l2 := V2.lt
          rw [b72_94 (by omega) (by rw [O.1.n]; omega) (by rw [wk_0 O.1 V2]), e1]
          simp only [Option.bind_some, Option.toList_some, Option.toList_none, List.cons_append, List.nil_append]
          rw [b72_101 (by omega) (by rw [S1.n]; omega) (by rw [wk_0 S1 V2]), e2]
          simp only [Option.bind_some, Option.toList_some, Option.toList_none, List.cons_append, List.nil_append]
          rw [b72_108 (i64_nz h7) (by rw [nI_s, nc]; omega), nI_s, nc, e3]
          simp only [Option.bind_some, Option.toList_some, Option.toList_none, List.cons_append, List.nil_append]
          exact (nx O3).tr ((F1.trans (Fc.zC V2)).trans F3)
    rw [ex_a S (by omega)]
    split
    · obtain ⟨s, N, R, M, B, L, m, H, r, K, C, f, I, T⟩ := G _ V
      have em := k_mo S V T I (u1 := .double 0) (u2 := .double 0)
      rw [zC_wx] at em
      obtain ⟨w, ew⟩ := bc_e (h := h) (mbF s)
      rw [b72_27, if_pos (show nI d < 7 from nI_lt (b := 7) (by omega) (by decide)), b72_33 (by omega) (by first | (rw [S.n]; decide) | (rw [S.k, kx_67]; done) | (rw [S.n]; have := V.lt; omega) | (rw [wk_0 S V]; done) | (rw [wr_0_0 S V, zq_rf]; done) | (rw [wr_0_0 S V, zq_rf, S.n]; have := V.lt; omega) | (rw [wr_0_0 S V, zq_rf, wk_1 S V])) (by first | (rw [S.n]; decide) | (rw [S.k, kx_67]; done) | (rw [S.n]; have := V.lt; omega) | (rw [wk_0 S V]; done) | (rw [wr_0_0 S V, zq_rf]; done) | (rw [wr_0_0 S V, zq_rf, S.n]; have := V.lt; omega) | (rw [wr_0_0 S V, zq_rf, wk_1 S V])), em]
      simp only [Option.bind_some, Option.toList_some, Option.toList_none, List.cons_append, List.nil_append]
      rw [b72_38, b72_42 (by omega), ew]
      simp only [Option.bind_some, Option.toList_some, Option.toList_none, List.cons_append, List.nil_append]
      rw [b72_49]
      by_cases h7 : w = 0
      · rw [if_pos h7]; exact ex_t O (by omega) (by omega)
      · have r1 : zh_r h 68 (d + 1) = .ref (69 + 16 * (d + 1)) := st_r S (by omega)
        rw [if_neg h7, b72_65 (by first | (rw [S.n]; decide) | (rw [S.k, kx_67]; done) | (rw [S.n]; have := V.lt; omega) | (rw [wk_0 S V]; done) | (rw [wr_0_0 S V, zq_rf]; done) | (rw [wr_0_0 S V, zq_rf, S.n]; have := V.lt; omega) | (rw [wr_0_0 S V, zq_rf, wk_1 S V])) (by first | (rw [S.n]; decide) | (rw [S.k, kx_67]; done) | (rw [S.n]; have := V.lt; omega) | (rw [wk_0 S V]; done) | (rw [wr_0_0 S V, zq_rf]; done) | (rw [wr_0_0 S V, zq_rf, S.n]; have := V.lt; omega) | (rw [wr_0_0 S V, zq_rf, wk_1 S V])) (by rw [r0, zq_rf]) (by rw [r0, zq_rf, S.n]; decide) (by rw [r0, zq_rf, k8, nI_s]; exact zj_n (by omega) (by decide)) (by rw [r0, zq_rf, k8]; exact Or.inl rfl) (by rw [r0, zq_rf, nI_s, nc, r1, zq_rf]), r0, zq_rf, nI_s, nc, r1, zq_rf]
        exact lp 3 0 rfl O h7
    · exact ex_z O (by omega) (by omega)
end R33E
