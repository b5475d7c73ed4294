/-! THE CLASS's rows: what they leave as it was -/
/-- all cells but the walk's -/
def Fw (h h' : zi_Hp) : Prop := Fc h h' ∧ ∀ a j, a < 67 ∨ 197 ≤ a → zh_i h' a j = zh_i h a j ∧ zh_b h' a j = zh_b h a j
theorem Fw.refl (h : zi_Hp) : Fw h h := ⟨Fc.refl h, fun _ _ _ => ⟨rfl, rfl⟩⟩
theorem Fw.trans {h h1 h2 : zi_Hp} (p : Fw h h1) (q : Fw h1 h2) : Fw h h2 := ⟨p.1.trans q.1, fun a j ha => ⟨(q.2 a j ha).1.trans (p.2 a j ha).1, (q.2 a j ha).2.trans (p.2 a j ha).2⟩⟩
theorem Fw.wi {h : zi_Hp} {a k : Nat} {v : Int32} (ha : 67 ≤ a ∧ a < 197) : Fw h (zh_wi h a k v) := ⟨Fc.wi (by omega), fun b j hb => ⟨by rw [hp_i_wi, if_neg (by omega)], rfl⟩⟩
theorem Fw.wl {h : zi_Hp} {a k : Nat} {v : Int64} (ha : a < 211) : Fw h (zh_wl h a k v) := ⟨Fc.wl ha, fun _ _ _ => ⟨rfl, rfl⟩⟩
theorem Fw.zC {h : zi_Hp} {W : Nat} {x : Nat → Nat → Int32} {y : Nat → Nat → Bool} (V : Wa W) (hW : 67 ≤ W) : Fw h (zC h W x y) := ⟨Fc.zC V, fun a j ha => ⟨zC_io _ (by have := V.l2; omega), zC_bo _ (by have := V.l2; omega)⟩⟩
def CCw (h : zi_Hp) (o : Option zi_Rt) : Prop := ∃ v h', o = some (some (.int v), h') ∧ GO h' ∧ Fw h h'
def CVw (h : zi_Hp) (o : Option zi_Rt) : Prop := ∃ h', o = some (none, h') ∧ GO h' ∧ Fw h h'
theorem CCw.same {h : zi_Hp} {o : Option zi_Rt} (O : GO h) (e : ∃ v, o = some (some (.int v), h)) : CCw h o := by
  obtain ⟨v, e⟩ := e
  exact ⟨v, h, e, O, Fw.refl h⟩
section R34U
variable {h h1 : zi_Hp} {W : Nat}
theorem GO.cpw (O : GO h) {W U : Nat} (V : Wa W) (V2 : Wa U) (hne : U ≠ W) (hW : 67 ≤ W) {u : Value} : CVw h (zv 2 75 0 [.ref W, .ref U, u] [] h) := by
  obtain ⟨S, G⟩ := id O
  obtain ⟨x', y', e, q⟩ := k_cw S V V2 hne (x := wx h W) (y := wy h W) (u2' := u)
  rw [zC_wx] at e
  exact ⟨_, e, O.zC V ((G U V2).sw q), Fw.zC V hW⟩
theorem CVw.tr {o : Option zi_Rt} (F : Fw h h1) (c : CVw h1 o) : CVw h o := by
  obtain ⟨h', e, O', F'⟩ := c
  exact ⟨h', e, O', F.trans F'⟩
section
variable {x2 : Int32} {y3 : Int64}
theorem tw_129 (O : GO h) (V : Wa W) : CVw h (zv 3 73 129 [.ref 67, .ref W, .int x2, .long y3, .double 1] [] h) := ⟨h, by rw [b73_129], O, Fw.refl h⟩
theorem tw_118 (O : GO h) (V : Wa W) : CVw h (zv 3 73 118 [.ref 67, .ref W, .int x2, .long y3, .double 1] [.ref 67] h) := by
  obtain ⟨S, -⟩ := id O
  rw [b73_118 (by first | (rw [S.n]; decide) | (rw [S.k, kx_67]; done) | (rw [S.n]; have := V.lt; omega) | (rw [wk_0 S V]; done) | (rw [wr_0_0 S V, zq_rf]; done) | (rw [wr_0_0 S V, zq_rf, S.n]; have := V.lt; omega) | (rw [wr_0_0 S V, zq_rf, wk_1 S V])) (by first | (rw [S.n]; decide) | (rw [S.k, kx_67]; done) | (rw [S.n]; have := V.lt; omega) | (rw [wk_0 S V]; done) | (rw [wr_0_0 S V, zq_rf]; done) | (rw [wr_0_0 S V, zq_rf, S.n]; have := V.lt; omega) | (rw [wr_0_0 S V, zq_rf, wk_1 S V]))]
  split
  · rw [b73_124 (by first | (rw [S.n]; decide) | (rw [S.k, kx_67]; done) | (rw [S.n]; have := V.lt; omega) | (rw [wk_0 S V]; done) | (rw [wr_0_0 S V, zq_rf]; done) | (rw [wr_0_0 S V, zq_rf, S.n]; have := V.lt; omega) | (rw [wr_0_0 S V, zq_rf, wk_1 S V])) (by first | (rw [S.n]; decide) | (rw [S.k, kx_67]; done) | (rw [S.n]; have := V.lt; omega) | (rw [wk_0 S V]; done) | (rw [wr_0_0 S V, zq_rf]; done) | (rw [wr_0_0 S V, zq_rf, S.n]; have := V.lt; omega) | (rw [wr_0_0 S V, zq_rf, wk_1 S V]))]
    exact (tw_129 (O.wi wo_67) V).tr (Fw.wi (by decide))
  · exact tw_129 O V
theorem tw_94 (O : GO h) (V : Wa W) {v : Int32} : CVw h (zv 3 73 94 [.ref 67, .ref W, .int x2, .long y3, .double 1] [.int v] h) := by
  obtain ⟨S, -⟩ := id O
  rw [b73_94]
  split
  · exact tw_129 O V
  · rw [b73_97 (by first | (rw [S.n]; decide) | (rw [S.k, kx_67]; done) | (rw [S.n]; have := V.lt; omega) | (rw [wk_0 S V]; done) | (rw [wr_0_0 S V, zq_rf]; done) | (rw [wr_0_0 S V, zq_rf, S.n]; have := V.lt; omega) | (rw [wr_0_0 S V, zq_rf, wk_1 S V])) (by first | (rw [S.n]; decide) | (rw [S.k, kx_67]; done) | (rw [S.n]; have := V.lt; omega) | (rw [wk_0 S V]; done) | (rw [wr_0_0 S V, zq_rf]; done) | (rw [wr_0_0 S V, zq_rf, S.n]; have := V.lt; omega) | (rw [wr_0_0 S V, zq_rf, wk_1 S V]))]
    have O1 : GO (zh_wi h 67 6 (zh_i h 67 6 + 1)) := O.wi wo_67
    refine CVw.tr (h1 := zh_wi h 67 6 (zh_i h 67 6 + 1)) (Fw.wi (by decide)) ?_
    generalize zh_wi h 67 6 (zh_i h 67 6 + 1) = h1 at O1
    obtain ⟨S, -⟩ := id O1
    rw [b73_109 (by first | (rw [S.n]; decide) | (rw [S.k, kx_67]; done) | (rw [S.n]; have := V.lt; omega) | (rw [wk_0 S V]; done) | (rw [wr_0_0 S V, zq_rf]; done) | (rw [wr_0_0 S V, zq_rf, S.n]; have := V.lt; omega) | (rw [wr_0_0 S V, zq_rf, wk_1 S V])) (by first | (rw [S.n]; decide) | (rw [S.k, kx_67]; done) | (rw [S.n]; have := V.lt; omega) | (rw [wk_0 S V]; done) | (rw [wr_0_0 S V, zq_rf]; done) | (rw [wr_0_0 S V, zq_rf, S.n]; have := V.lt; omega) | (rw [wr_0_0 S V, zq_rf, wk_1 S V])) (by first | (rw [S.n]; decide) | (rw [S.k, kx_67]; done) | (rw [S.n]; have := V.lt; omega) | (rw [wk_0 S V]; done) | (rw [wr_0_0 S V, zq_rf]; done) | (rw [wr_0_0 S V, zq_rf, S.n]; have := V.lt; omega) | (rw [wr_0_0 S V, zq_rf, wk_1 S V])) (by first | (rw [S.n]; decide) | (rw [S.k, kx_67]; done) | (rw [S.n]; have := V.lt; omega) | (rw [wk_0 S V]; done) | (rw [wr_0_0 S V, zq_rf]; done) | (rw [wr_0_0 S V, zq_rf, S.n]; have := V.lt; omega) | (rw [wr_0_0 S V, zq_rf, wk_1 S V]))]
    exact (tw_118 O1.wl V).tr (Fw.wl (by decide))
theorem tw_82 (O : GO h) (V : Wa W) : CVw h (zv 3 73 82 [.ref 67, .ref W, .int x2, .long y3, .double 1] [] h) := by
  obtain ⟨S, -⟩ := id O
  obtain ⟨v, e⟩ := w_103 O V (zh_i h 67 11) (zh_i h 67 12)
  rw [b73_82 (by first | (rw [S.n]; decide) | (rw [S.k, kx_67]; done) | (rw [S.n]; have := V.lt; omega) | (rw [wk_0 S V]; done) | (rw [wr_0_0 S V, zq_rf]; done) | (rw [wr_0_0 S V, zq_rf, S.n]; have := V.lt; omega) | (rw [wr_0_0 S V, zq_rf, wk_1 S V])) (by first | (rw [S.n]; decide) | (rw [S.k, kx_67]; done) | (rw [S.n]; have := V.lt; omega) | (rw [wk_0 S V]; done) | (rw [wr_0_0 S V, zq_rf]; done) | (rw [wr_0_0 S V, zq_rf, S.n]; have := V.lt; omega) | (rw [wr_0_0 S V, zq_rf, wk_1 S V])) (by first | (rw [S.n]; decide) | (rw [S.k, kx_67]; done) | (rw [S.n]; have := V.lt; omega) | (rw [wk_0 S V]; done) | (rw [wr_0_0 S V, zq_rf]; done) | (rw [wr_0_0 S V, zq_rf, S.n]; have := V.lt; omega) | (rw [wr_0_0 S V, zq_rf, wk_1 S V])) (by first | (rw [S.n]; decide) | (rw [S.k, kx_67]; done) | (rw [S.n]; have := V.lt; omega) | (rw [wk_0 S V]; done) | (rw [wr_0_0 S V, zq_rf]; done) | (rw [wr_0_0 S V, zq_rf, S.n]; have := V.lt; omega) | (rw [wr_0_0 S V, zq_rf, wk_1 S V])), e]
  simp only [Option.bind_some, Option.toList_some, Option.toList_none, List.cons_append, List.nil_append]
  exact tw_94 O V
theorem tw_69 (O : GO h) (V : Wa W) {v : Int32} : CVw h (zv 3 73 69 [.ref 67, .ref W, .int x2, .long y3, .double 1] [.int v] h) := by
  obtain ⟨S, -⟩ := id O
  rw [b73_69]
  split
  · exact tw_82 O V
  · rw [b73_72 (by first | (rw [S.n]; decide) | (rw [S.k, kx_67]; done) | (rw [S.n]; have := V.lt; omega) | (rw [wk_0 S V]; done) | (rw [wr_0_0 S V, zq_rf]; done) | (rw [wr_0_0 S V, zq_rf, S.n]; have := V.lt; omega) | (rw [wr_0_0 S V, zq_rf, wk_1 S V])) (by first | (rw [S.n]; decide) | (rw [S.k, kx_67]; done) | (rw [S.n]; have := V.lt; omega) | (rw [wk_0 S V]; done) | (rw [wr_0_0 S V, zq_rf]; done) | (rw [wr_0_0 S V, zq_rf, S.n]; have := V.lt; omega) | (rw [wr_0_0 S V, zq_rf, wk_1 S V]))]
    exact (tw_82 (O.wi wo_67) V).tr (Fw.wi (by decide))
theorem tw_47 (O : GO h) (V : Wa W) : CVw h (zv 3 73 47 [.ref 67, .ref W, .int x2, .long y3, .double 1] [.ref 67, .ref 67] h) := by
  obtain ⟨S, -⟩ := id O
  obtain ⟨v, e⟩ := w_100 O V
  rw [b73_47 (by first | (rw [S.n]; decide) | (rw [S.k, kx_67]; done) | (rw [S.n]; have := V.lt; omega) | (rw [wk_0 S V]; done) | (rw [wr_0_0 S V, zq_rf]; done) | (rw [wr_0_0 S V, zq_rf, S.n]; have := V.lt; omega) | (rw [wr_0_0 S V, zq_rf, wk_1 S V])) (by first | (rw [S.n]; decide) | (rw [S.k, kx_67]; done) | (rw [S.n]; have := V.lt; omega) | (rw [wk_0 S V]; done) | (rw [wr_0_0 S V, zq_rf]; done) | (rw [wr_0_0 S V, zq_rf, S.n]; have := V.lt; omega) | (rw [wr_0_0 S V, zq_rf, wk_1 S V])) (by first | (rw [S.n]; decide) | (rw [S.k, kx_67]; done) | (rw [S.n]; have := V.lt; omega) | (rw [wk_0 S V]; done) | (rw [wr_0_0 S V, zq_rf]; done) | (rw [wr_0_0 S V, zq_rf, S.n]; have := V.lt; omega) | (rw [wr_0_0 S V, zq_rf, wk_1 S V])) (by first | (rw [S.n]; decide) | (rw [S.k, kx_67]; done) | (rw [S.n]; have := V.lt; omega) | (rw [wk_0 S V]; done) | (rw [wr_0_0 S V, zq_rf]; done) | (rw [wr_0_0 S V, zq_rf, S.n]; have := V.lt; omega) | (rw [wr_0_0 S V, zq_rf, wk_1 S V])), e]
  simp only [Option.bind_some, Option.toList_some, Option.toList_none, List.cons_append, List.nil_append]
  rw [b73_54 (by first | (rw [S.n]; decide) | (rw [S.k, kx_67]; done) | (rw [S.n]; have := V.lt; omega) | (rw [wk_0 S V]; done) | (rw [wr_0_0 S V, zq_rf]; done) | (rw [wr_0_0 S V, zq_rf, S.n]; have := V.lt; omega) | (rw [wr_0_0 S V, zq_rf, wk_1 S V])) (by first | (rw [S.n]; decide) | (rw [S.k, kx_67]; done) | (rw [S.n]; have := V.lt; omega) | (rw [wk_0 S V]; done) | (rw [wr_0_0 S V, zq_rf]; done) | (rw [wr_0_0 S V, zq_rf, S.n]; have := V.lt; omega) | (rw [wr_0_0 S V, zq_rf, wk_1 S V])) (by first | (rw [S.n]; decide) | (rw [S.k, kx_67]; done) | (rw [S.n]; have := V.lt; omega) | (rw [wk_0 S V]; done) | (rw [wr_0_0 S V, zq_rf]; done) | (rw [wr_0_0 S V, zq_rf, S.n]; have := V.lt; omega) | (rw [wr_0_0 S V, zq_rf, wk_1 S V])) (by first | (rw [S.n]; decide) | (rw [S.k, kx_67]; done) | (rw [S.n]; have := V.lt; omega) | (rw [wk_0 S V]; done) | (rw [wr_0_0 S V, zq_rf]; done) | (rw [wr_0_0 S V, zq_rf, S.n]; have := V.lt; omega) | (rw [wr_0_0 S V, zq_rf, wk_1 S V])) (by first | (rw [S.n]; decide) | (rw [S.k, kx_67]; done) | (rw [S.n]; have := V.lt; omega) | (rw [wk_0 S V]; done) | (rw [wr_0_0 S V, zq_rf]; done) | (rw [wr_0_0 S V, zq_rf, S.n]; have := V.lt; omega) | (rw [wr_0_0 S V, zq_rf, wk_1 S V])) (by first | (rw [S.n]; decide) | (rw [S.k, kx_67]; done) | (rw [S.n]; have := V.lt; omega) | (rw [wk_0 S V]; done) | (rw [wr_0_0 S V, zq_rf]; done) | (rw [wr_0_0 S V, zq_rf, S.n]; have := V.lt; omega) | (rw [wr_0_0 S V, zq_rf, wk_1 S V]))]
  generalize (if zh_i h 67 4 < v - zh_i h 67 10 then v - zh_i h 67 10 else zh_i h 67 4) = w
  have O1 : GO (zh_wi h 67 4 w) := O.wi wo_67
  obtain ⟨v2, e2⟩ := w_102 O1 V
  rw [e2]
  simp only [Option.bind_some, Option.toList_some, Option.toList_none, List.cons_append, List.nil_append]
  exact (tw_69 O1 V).tr (Fw.wi (by decide))
theorem tw_27 (O : GO h) (V : Wa W) : CVw h (zv 3 73 27 [.ref 67, .ref W, .int x2, .long y3, .double 1] [] h) := by
  obtain ⟨S, -⟩ := id O
  rw [b73_27 (by first | (rw [S.n]; decide) | (rw [S.k, kx_67]; done) | (rw [S.n]; have := V.lt; omega) | (rw [wk_0 S V]; done) | (rw [wr_0_0 S V, zq_rf]; done) | (rw [wr_0_0 S V, zq_rf, S.n]; have := V.lt; omega) | (rw [wr_0_0 S V, zq_rf, wk_1 S V])) (by first | (rw [S.n]; decide) | (rw [S.k, kx_67]; done) | (rw [S.n]; have := V.lt; omega) | (rw [wk_0 S V]; done) | (rw [wr_0_0 S V, zq_rf]; done) | (rw [wr_0_0 S V, zq_rf, S.n]; have := V.lt; omega) | (rw [wr_0_0 S V, zq_rf, wk_1 S V])) (by first | (rw [S.n]; decide) | (rw [S.k, kx_67]; done) | (rw [S.n]; have := V.lt; omega) | (rw [wk_0 S V]; done) | (rw [wr_0_0 S V, zq_rf]; done) | (rw [wr_0_0 S V, zq_rf, S.n]; have := V.lt; omega) | (rw [wr_0_0 S V, zq_rf, wk_1 S V])) (by first | (rw [S.n]; decide) | (rw [S.k, kx_67]; done) | (rw [S.n]; have := V.lt; omega) | (rw [wk_0 S V]; done) | (rw [wr_0_0 S V, zq_rf]; done) | (rw [wr_0_0 S V, zq_rf, S.n]; have := V.lt; omega) | (rw [wr_0_0 S V, zq_rf, wk_1 S V])) (by first | (rw [S.n]; decide) | (rw [S.k, kx_67]; done) | (rw [S.n]; have := V.lt; omega) | (rw [wk_0 S V]; done) | (rw [wr_0_0 S V, zq_rf]; done) | (rw [wr_0_0 S V, zq_rf, S.n]; have := V.lt; omega) | (rw [wr_0_0 S V, zq_rf, wk_1 S V])) (by first | (rw [S.n]; decide) | (rw [S.k, kx_67]; done) | (rw [S.n]; have := V.lt; omega) | (rw [wk_0 S V]; done) | (rw [wr_0_0 S V, zq_rf]; done) | (rw [wr_0_0 S V, zq_rf, S.n]; have := V.lt; omega) | (rw [wr_0_0 S V, zq_rf, wk_1 S V])) (by first | (rw [S.n]; decide) | (rw [S.k, kx_67]; done) | (rw [S.n]; have := V.lt; omega) | (rw [wk_0 S V]; done) | (rw [wr_0_0 S V, zq_rf]; done) | (rw [wr_0_0 S V, zq_rf, S.n]; have := V.lt; omega) | (rw [wr_0_0 S V, zq_rf, wk_1 S V]))]
  exact (tw_47 (O.wi wo_67) V).tr (Fw.wi (by decide))
theorem tw_0 (O : GO h) (V : Wa W) : CVw h (zv 3 73 0 [.ref 67, .ref W, .int x2, .long y3, .double 1] [] h) := by
  obtain ⟨S, -⟩ := id O
  rw [b73_0 (by first | (rw [S.n]; decide) | (rw [S.k, kx_67]; done) | (rw [S.n]; have := V.lt; omega) | (rw [wk_0 S V]; done) | (rw [wr_0_0 S V, zq_rf]; done) | (rw [wr_0_0 S V, zq_rf, S.n]; have := V.lt; omega) | (rw [wr_0_0 S V, zq_rf, wk_1 S V])) (by first | (rw [S.n]; decide) | (rw [S.k, kx_67]; done) | (rw [S.n]; have := V.lt; omega) | (rw [wk_0 S V]; done) | (rw [wr_0_0 S V, zq_rf]; done) | (rw [wr_0_0 S V, zq_rf, S.n]; have := V.lt; omega) | (rw [wr_0_0 S V, zq_rf, wk_1 S V])) (by first | (rw [S.n]; decide) | (rw [S.k, kx_67]; done) | (rw [S.n]; have := V.lt; omega) | (rw [wk_0 S V]; done) | (rw [wr_0_0 S V, zq_rf]; done) | (rw [wr_0_0 S V, zq_rf, S.n]; have := V.lt; omega) | (rw [wr_0_0 S V, zq_rf, wk_1 S V])) (by first | (rw [S.n]; decide) | (rw [S.k, kx_67]; done) | (rw [S.n]; have := V.lt; omega) | (rw [wk_0 S V]; done) | (rw [wr_0_0 S V, zq_rf]; done) | (rw [wr_0_0 S V, zq_rf, S.n]; have := V.lt; omega) | (rw [wr_0_0 S V, zq_rf, wk_1 S V]))]
  have O1 : GO (zh_wi h 67 1 (zh_i h 67 1 + 1)) := O.wi wo_67
  refine CVw.tr (h1 := zh_wi h 67 1 (zh_i h 67 1 + 1)) (Fw.wi (by decide)) ?_
  generalize zh_wi h 67 1 (zh_i h 67 1 + 1) = h1 at O1
  obtain ⟨v, e⟩ := w_101 O1 V
  rw [e]
  simp only [Option.bind_some, Option.toList_some, Option.toList_none, List.cons_append, List.nil_append]
  obtain ⟨S, -⟩ := id O1
  rw [b73_14]
  split
  · exact tw_27 O1 V
  · rw [b73_17 (by first | (rw [S.n]; decide) | (rw [S.k, kx_67]; done) | (rw [S.n]; have := V.lt; omega) | (rw [wk_0 S V]; done) | (rw [wr_0_0 S V, zq_rf]; done) | (rw [wr_0_0 S V, zq_rf, S.n]; have := V.lt; omega) | (rw [wr_0_0 S V, zq_rf, wk_1 S V])) (by first | (rw [S.n]; decide) | (rw [S.k, kx_67]; done) | (rw [S.n]; have := V.lt; omega) | (rw [wk_0 S V]; done) | (rw [wr_0_0 S V, zq_rf]; done) | (rw [wr_0_0 S V, zq_rf, S.n]; have := V.lt; omega) | (rw [wr_0_0 S V, zq_rf, wk_1 S V]))]
    exact (tw_27 (O1.wi wo_67) V).tr (Fw.wi (by decide))
end
/-- the stack's world, and the row's end -/
theorem ex_tw (O : GO h) {k d : Nat} (hd : d < 8) (hk : 3 < k) {x2 x6 x7 : Int32} {y3 : Int64} {u8 u9 : Value} : CVw h (zv k 72 56 [.ref 67, .int (nI d), .int x2, .long y3, .double 1, .ref (69 + 16 * d), .int x6, .int x7, u8, u9] [] h) := by
  obtain ⟨S, -⟩ := id O
  have V := st_V hd
  obtain ⟨h', e, O', F'⟩ := tw_0 O V (x2 := x2) (y3 := y3)
  rw [b72_56 hk (by first | (rw [S.n]; decide) | (rw [S.k, kx_67]; done) | (rw [S.n]; have := V.lt; omega) | (rw [wk_0 S V]; done) | (rw [wr_0_0 S V, zq_rf]; done) | (rw [wr_0_0 S V, zq_rf, S.n]; have := V.lt; omega) | (rw [wr_0_0 S V, zq_rf, wk_1 S V])) (by first | (rw [S.n]; decide) | (rw [S.k, kx_67]; done) | (rw [S.n]; have := V.lt; omega) | (rw [wk_0 S V]; done) | (rw [wr_0_0 S V, zq_rf]; done) | (rw [wr_0_0 S V, zq_rf, S.n]; have := V.lt; omega) | (rw [wr_0_0 S V, zq_rf, wk_1 S V])), e]
  simp only [Option.bind_some, Option.toList_some, Option.toList_none, List.cons_append, List.nil_append]
  exact ⟨h', by rw [b72_64], O', F'⟩
theorem ex_zw (O : GO h) {k d : Nat} (hd : d < 8) (hk : 3 < k) {x2 : Int32} {y3 : Int64} {u6 u7 u8 u9 : Value} : CVw h (zv k 72 41 [.ref 67, .int (nI d), .int x2, .long y3, .double 1, .ref (69 + 16 * d), u6, u7, u8, u9] [] h) := by
  rw [b72_41, b72_42 (by omega), bc_0]
  simp only [Option.bind_some, Option.toList_some, Option.toList_none, List.cons_append, List.nil_append]
  rw [b72_49, if_pos rfl]
  exact ex_tw O hd hk
theorem ex_gw : ∀ e d, d + e = 7 → ∀ {h : zi_Hp}, GO h → ∀ {x2 : Int32} {y3 : Int64} {u5 u6 u7 u8 u9 : Value}, CVw h (zv (6 + (8 - d)) 72 0 [.ref 67, .int (nI d), .int x2, .long y3, .double 1, u5, u6, u7, u8, u9] [] h)
  | 0, d, hd, h, O, x2, y3, u5, u6, u7, u8, u9 => by
    have e : d = 7 := by omega
    subst e
    rw [ex_a O.1 (by decide)]
    split
    · rw [b72_27, if_neg (by decide)]
      exact ex_zw O (by decide) (by decide)
    · exact ex_zw O (by decide) (by decide)
  | e + 1, d, hd, h, O, x2, y3, u5, u6, u7, u8, u9 => by
    obtain ⟨S, G⟩ := id O
    have V := st_V (d := d) (by omega)
    have V2 := st_V (d := d + 1) (by omega)
    have r0 : zh_r h 67 0 = .ref 68 := by rw [S.r, rx_67_0]
    have k8 : zh_k h 68 = (103, 8) := by rw [S.k, kx_68]
    have nc : (nI (d + 1)).toNatClampNeg = d + 1 := nI_clamp (by omega)
    have lp : ∀ q c, c + q = 3 → ∀ {h : zi_Hp}, GO h → ∀ {x6 x7 : Int32}, ¬ x7 = 0 → CVw h (zv (6 + (8 - d)) 72 78 [.ref 67, .int (nI d), .int x2, .long y3, .double 1, .ref (69 + 16 * d), .int x6, .int x7, .ref (69 + 16 * (d + 1)), .int (nI c)] [] h) := by
      intro q
      induction q with
      | zero =>
        intro c hc h O x6 x7 h7
        have e : c = 3 := by omega
        subst e
        exact ⟨h, by rw [b72_78, if_neg (by decide), b72_134], O, Fw.refl h⟩
      | succ q ih =>
        intro c hc h O x6 x7 h7
        have nx : ∀ {h : zi_Hp}, GO h → CVw h (zv (6 + (8 - d)) 72 128 [.ref 67, .int (nI d), .int x2, .long y3, .double 1, .ref (69 + 16 * d), .int x6, .int x7, .ref (69 + 16 * (d + 1)), .int (nI c)] [] h) := fun {h} O => by
          rw [b72_128, nI_s]; exact ih (c + 1) (by omega) O h7
        rw [b72_78, if_pos (show nI c < 3 from nI_lt (b := 3) (by omega) (by decide)), b72_84]
        split
        · exact nx O
        · obtain ⟨h1, e1, O1, F1⟩ := O.cpw V2 V (by omega) (by omega) (u := .double 0)
          obtain ⟨S1, G1⟩ := id O1
          obtain ⟨cd, x', y', e2, G2⟩ := (G1 _ V2).step S1 V2 (c := c) (by omega) (v2 := .double 0) (v3 := .double 0) (v4 := .double 0)
          rw [zC_wx] at e2
          have O2 : GO (zC h1 (69 + 16 * (d + 1)) x' y') := O1.zC V2 G2
          obtain ⟨h3, e3, O3, F3⟩ := ex_gw e (d + 1) (by omega) O2 (x2 := x2 * 10 + nI c) (y3 := y3 / x7.toInt64) (u5 := .double 0) (u6 := .double 0) (u7 := .double 0) (u8 := .double 0) (u9 := .double 0)
          have l2 := V2.lt
          rw [b72_94 (by omega) (by rw [O.1.n]; omega) (by rw [wk_0 O.1 V2]), e1]
          simp only [Option.bind_some, Option.toList_some, Option.toList_none, List.cons_append, List.nil_append]
          rw [b72_101 (by omega) (by rw [S1.n]; omega) (by rw [wk_0 S1 V2]), e2]
          simp only [Option.bind_some, Option.toList_some, Option.toList_none, List.cons_append, List.nil_append]
          rw [b72_108 (i64_nz h7) (by rw [nI_s, nc]; omega), nI_s, nc, e3]
          simp only [Option.bind_some, Option.toList_some, Option.toList_none, List.cons_append, List.nil_append]
          exact (nx O3).tr ((F1.trans (Fw.zC V2 (by omega))).trans F3)
    rw [ex_a S (by omega)]
    split
    · obtain ⟨s, N, R, M, B, L, m, H, r, K, C, f, I, T⟩ := G _ V
      have em := k_mo S V T I (u1 := .double 0) (u2 := .double 0)
      rw [zC_wx] at em
      obtain ⟨w, ew⟩ := bc_e (h := h) (mbF s)
      rw [b72_27, if_pos (show nI d < 7 from nI_lt (b := 7) (by omega) (by decide)), b72_33 (by omega) (by first | (rw [S.n]; decide) | (rw [S.k, kx_67]; done) | (rw [S.n]; have := V.lt; omega) | (rw [wk_0 S V]; done) | (rw [wr_0_0 S V, zq_rf]; done) | (rw [wr_0_0 S V, zq_rf, S.n]; have := V.lt; omega) | (rw [wr_0_0 S V, zq_rf, wk_1 S V])) (by first | (rw [S.n]; decide) | (rw [S.k, kx_67]; done) | (rw [S.n]; have := V.lt; omega) | (rw [wk_0 S V]; done) | (rw [wr_0_0 S V, zq_rf]; done) | (rw [wr_0_0 S V, zq_rf, S.n]; have := V.lt; omega) | (rw [wr_0_0 S V, zq_rf, wk_1 S V])), em]
      simp only [Option.bind_some, Option.toList_some, Option.toList_none, List.cons_append, List.nil_append]
      rw [b72_38, b72_42 (by omega), ew]
      simp only [Option.bind_some, Option.toList_some, Option.toList_none, List.cons_append, List.nil_append]
      rw [b72_49]
      by_cases h7 : w = 0
      · rw [if_pos h7]; exact ex_tw O (by omega) (by omega)
      · have r1 : zh_r h 68 (d + 1) = .ref (69 + 16 * (d + 1)) := st_r S (by omega)
        rw [if_neg h7, b72_65 (by first | (rw [S.n]; decide) | (rw [S.k, kx_67]; done) | (rw [S.n]; have := V.lt; omega) | (rw [wk_0 S V]; done) | (rw [wr_0_0 S V, zq_rf]; done) | (rw [wr_0_0 S V, zq_rf, S.n]; have := V.lt; omega) | (rw [wr_0_0 S V, zq_rf, wk_1 S V])) (by first | (rw [S.n]; decide) | (rw [S.k, kx_67]; done) | (rw [S.n]; have := V.lt; omega) | (rw [wk_0 S V]; done) | (rw [wr_0_0 S V, zq_rf]; done) | (rw [wr_0_0 S V, zq_rf, S.n]; have := V.lt; omega) | (rw [wr_0_0 S V, zq_rf, wk_1 S V])) (by rw [r0, zq_rf]) (by rw [r0, zq_rf, S.n]; decide) (by rw [r0, zq_rf, k8, nI_s]; exact zj_n (by omega) (by decide)) (by rw [r0, zq_rf, k8]; exact Or.inl rfl) (by rw [r0, zq_rf, nI_s, nc, r1, zq_rf]), r0, zq_rf, nI_s, nc, r1, zq_rf]
        exact lp 3 0 rfl O h7
    · exact ex_zw O (by omega) (by omega)
theorem w_svw (O : GO h) (x2 x3 x4 : Int32) : CVw h (zv 16 71 0 [.ref 67, .ref 1, .int x2, .int x3, .int x4] [] h) := by
  obtain ⟨S, -⟩ := id O
  have V := V1
  rw [b71_0 (by first | (rw [S.n]; decide) | (rw [S.k, kx_67]; done) | (rw [S.n]; have := V.lt; omega) | (rw [wk_0 S V]; done) | (rw [wr_0_0 S V, zq_rf]; done) | (rw [wr_0_0 S V, zq_rf, S.n]; have := V.lt; omega) | (rw [wr_0_0 S V, zq_rf, wk_1 S V])) (by first | (rw [S.n]; decide) | (rw [S.k, kx_67]; done) | (rw [S.n]; have := V.lt; omega) | (rw [wk_0 S V]; done) | (rw [wr_0_0 S V, zq_rf]; done) | (rw [wr_0_0 S V, zq_rf, S.n]; have := V.lt; omega) | (rw [wr_0_0 S V, zq_rf, wk_1 S V])) (by first | (rw [S.n]; decide) | (rw [S.k, kx_67]; done) | (rw [S.n]; have := V.lt; omega) | (rw [wk_0 S V]; done) | (rw [wr_0_0 S V, zq_rf]; done) | (rw [wr_0_0 S V, zq_rf, S.n]; have := V.lt; omega) | (rw [wr_0_0 S V, zq_rf, wk_1 S V])) (by first | (rw [S.n]; decide) | (rw [S.k, kx_67]; done) | (rw [S.n]; have := V.lt; omega) | (rw [wk_0 S V]; done) | (rw [wr_0_0 S V, zq_rf]; done) | (rw [wr_0_0 S V, zq_rf, S.n]; have := V.lt; omega) | (rw [wr_0_0 S V, zq_rf, wk_1 S V]))]
  obtain ⟨h0, eh0⟩ : ∃ h0, h0 = zh_wi (zh_wl (zh_wi (zh_wi (zh_wi (zh_wi (zh_wi (zh_wi (zh_wi h 67 1 0) 67 2 0) 67 3 0) 67 4 0) 67 5 0) 67 6 0) 67 7 (-4)) 67 8 0) 67 9 (if 7 < x2 then 7 else x2) := ⟨_, rfl⟩
  have O0 : GO h0 := by
    rw [eh0]; exact (((((((((O.wi wo_67).wi wo_67).wi wo_67).wi wo_67).wi wo_67).wi wo_67).wi wo_67).wl).wi wo_67)
  have F0 : Fw h h0 := by
    rw [eh0]
    exact ((((((((Fw.wi (by decide)).trans (Fw.wi (by decide))).trans (Fw.wi (by decide))).trans (Fw.wi (by decide))).trans (Fw.wi (by decide))).trans (Fw.wi (by decide))).trans (Fw.wi (by decide))).trans (Fw.wl (by decide))).trans (Fw.wi (by decide))
  rw [← eh0]
  obtain ⟨v, e⟩ := w_100 O0 V1
  rw [e]
  simp only [Option.bind_some, Option.toList_some, Option.toList_none, List.cons_append, List.nil_append]
  obtain ⟨S0, -⟩ := id O0
  have r0 : zh_r h0 67 0 = .ref 68 := by rw [S0.r, rx_67_0]
  have k8 : zh_k h0 68 = (103, 8) := by rw [S0.k, kx_68]
  have r1 : zh_r h0 68 0 = .ref 69 := by rw [S0.r, rx_68_0]
  have k9 : zh_k h0 69 = (6, 2) := by rw [S0.k, kx_69]
  have n0 : (67 : Nat) < zh_n h0 := by rw [S0.n]; decide
  have k7 : (zh_k h0 67).1 = 5 := by rw [S0.k, kx_67]
  rw [b71_56 n0 k7 n0 k7 (by rw [r0, zq_rf]) (by rw [r0, zq_rf, S0.n]; decide) (by rw [r0, zq_rf, k8]; decide) (by rw [r0, zq_rf, k8]; exact Or.inl rfl) (by rw [r0, zq_rf, r1, zq_rf]) (by rw [r0, zq_rf, r1, zq_rf, S0.n]; decide) (by rw [r0, zq_rf, r1, zq_rf, k9]), r0, zq_rf, r1, zq_rf]
  have O1 : GO (zh_wi (zh_wi (zh_wi h0 67 10 v) 67 11 x3) 67 12 x4) := ((O0.wi wo_67).wi wo_67).wi wo_67
  have F1 : Fw h0 (zh_wi (zh_wi (zh_wi h0 67 10 v) 67 11 x3) 67 12 x4) := ((Fw.wi (by decide)).trans (Fw.wi (by decide))).trans (Fw.wi (by decide))
  obtain ⟨h2, e2, O2, F2⟩ := O1.cpw (W := 69) (U := 1) (st_V (d := 0) (by decide)) V1 (by decide) (by decide) (u := .double 0)
  obtain ⟨h3, e3, O3, F3⟩ := ex_gw 7 0 rfl O2 (x2 := 1) (y3 := 279936) (u5 := .double 0) (u6 := .double 0) (u7 := .double 0) (u8 := .double 0) (u9 := .double 0)
  have e3' : zv 14 72 0 [.ref 67, .int 0, .int 1, .long 279936, .double 1, .double 0, .double 0, .double 0, .double 0, .double 0] [] h2 = some (none, h3) := e3
  rw [e2]
  simp only [Option.bind_some, Option.toList_some, Option.toList_none, List.cons_append, List.nil_append]
  rw [b71_80, e3']
  simp only [Option.bind_some, Option.toList_some, Option.toList_none, List.cons_append, List.nil_append]
  exact ⟨h3, by rw [b71_89], O3, ((F0.trans F1).trans F2).trans F3⟩
theorem c_roww (O : GO h) (x w : Int32) : CCw h (zv 17 119 0 [.ref 0, .int x, .int w] [] h) := by
  obtain ⟨S, -⟩ := id O
  by_cases hv : ¬ x < 0 ∧ ¬ 7 < x
  · by_cases h0 : w < 0
    · refine CCw.same O ?_
      simp +decide only [b119_0, b119_4, b119_7, b119_16, S.n, S.k, S.r, hp_n_wi, hp_k_wi, hp_r_wi, hp_n_wl, hp_k_wl, hp_r_wl, hp_n_wb, hp_k_wb, hp_r_wb, zq_rf, kx_0, kx_1, kx_2, kx_3, kx_4, kx_5, kx_6, kx_7, kx_8, kx_9, kx_10, kx_11, kx_12, kx_13, kx_14, kx_15, kx_16, kx_17, kx_33, kx_34, kx_50, kx_66, kx_67, kx_68, kx_69, kx_197, kx_198, kx_199, kx_200, kx_201, kx_202, kx_203, kx_204, kx_205, kx_206, kx_207, kx_208, kx_209, kx_210, rx_0_0, rx_0_1, rx_0_2, rx_0_3, rx_0_4, rx_0_5, rx_0_6, rx_0_7, rx_1_0, rx_1_1, rx_2_3, rx_2_4, rx_2_5, rx_2_6, rx_2_7, rx_2_8, rx_2_9, rx_10_0, rx_10_1, rx_10_2, rx_33_0, rx_33_1, rx_67_0, rx_68_0, rx_197_0, rx_199_5, rx_199_6, rx_199_7, rx_203_0, rx_203_1, rx_203_2, rx_206_0, rx_206_1, rx_206_2, rx_206_3, Option.bind_some, Option.toList_some, Option.toList_none, List.cons_append, List.nil_append, ↓reduceIte, p_135, decide_eq_true hv, zi_bI_t, if_pos h0]; exact ⟨_, rfl⟩
    · by_cases h4 : 4 < w
      · refine CCw.same O ?_
        simp +decide only [b119_0, b119_4, b119_7, b119_11, b119_16, S.n, S.k, S.r, hp_n_wi, hp_k_wi, hp_r_wi, hp_n_wl, hp_k_wl, hp_r_wl, hp_n_wb, hp_k_wb, hp_r_wb, zq_rf, kx_0, kx_1, kx_2, kx_3, kx_4, kx_5, kx_6, kx_7, kx_8, kx_9, kx_10, kx_11, kx_12, kx_13, kx_14, kx_15, kx_16, kx_17, kx_33, kx_34, kx_50, kx_66, kx_67, kx_68, kx_69, kx_197, kx_198, kx_199, kx_200, kx_201, kx_202, kx_203, kx_204, kx_205, kx_206, kx_207, kx_208, kx_209, kx_210, rx_0_0, rx_0_1, rx_0_2, rx_0_3, rx_0_4, rx_0_5, rx_0_6, rx_0_7, rx_1_0, rx_1_1, rx_2_3, rx_2_4, rx_2_5, rx_2_6, rx_2_7, rx_2_8, rx_2_9, rx_10_0, rx_10_1, rx_10_2, rx_33_0, rx_33_1, rx_67_0, rx_68_0, rx_197_0, rx_199_5, rx_199_6, rx_199_7, rx_203_0, rx_203_1, rx_203_2, rx_206_0, rx_206_1, rx_206_2, rx_206_3, Option.bind_some, Option.toList_some, Option.toList_none, List.cons_append, List.nil_append, ↓reduceIte, p_135, decide_eq_true hv, zi_bI_t, if_neg h0, if_pos h4]; exact ⟨_, rfl⟩
      · obtain ⟨h', e, O', F'⟩ := w_svw O x (-4) (-4)
        have go : zv 17 119 0 [.ref 0, .int x, .int w] [] h = zv 17 119 34 [.ref 0, .int x, .int w] [] h' := by
          simp +decide only [b119_0, b119_4, b119_7, b119_11, b119_18, S.n, S.k, S.r, hp_n_wi, hp_k_wi, hp_r_wi, hp_n_wl, hp_k_wl, hp_r_wl, hp_n_wb, hp_k_wb, hp_r_wb, zq_rf, kx_0, kx_1, kx_2, kx_3, kx_4, kx_5, kx_6, kx_7, kx_8, kx_9, kx_10, kx_11, kx_12, kx_13, kx_14, kx_15, kx_16, kx_17, kx_33, kx_34, kx_50, kx_66, kx_67, kx_68, kx_69, kx_197, kx_198, kx_199, kx_200, kx_201, kx_202, kx_203, kx_204, kx_205, kx_206, kx_207, kx_208, kx_209, kx_210, rx_0_0, rx_0_1, rx_0_2, rx_0_3, rx_0_4, rx_0_5, rx_0_6, rx_0_7, rx_1_0, rx_1_1, rx_2_3, rx_2_4, rx_2_5, rx_2_6, rx_2_7, rx_2_8, rx_2_9, rx_10_0, rx_10_1, rx_10_2, rx_33_0, rx_33_1, rx_67_0, rx_68_0, rx_197_0, rx_199_5, rx_199_6, rx_199_7, rx_203_0, rx_203_1, rx_203_2, rx_206_0, rx_206_1, rx_206_2, rx_206_3, Option.bind_some, Option.toList_some, Option.toList_none, List.cons_append, List.nil_append, ↓reduceIte, p_135, decide_eq_true hv, zi_bI_t, if_neg h0, if_neg h4, e]
        rw [go]
        obtain ⟨n, hn, rfl⟩ := nI_ex' (b := 4) (by decide) h0 h4
        have fin : ∃ v, zv 17 119 34 [.ref 0, .int x, .int (nI n)] [] h' = some (some (.int v), h') := by
          obtain ⟨S, -⟩ := id O'
          have : n = 0 ∨ n = 1 ∨ n = 2 ∨ n = 3 ∨ n = 4 := by omega
          rcases this with rfl | rfl | rfl | rfl | rfl
          · rw [b119_34_c0 (x2 := nI 0) rfl]; simp +decide only [b119_64, S.n, S.k, S.r, hp_n_wi, hp_k_wi, hp_r_wi, hp_n_wl, hp_k_wl, hp_r_wl, hp_n_wb, hp_k_wb, hp_r_wb, zq_rf, kx_0, kx_1, kx_2, kx_3, kx_4, kx_5, kx_6, kx_7, kx_8, kx_9, kx_10, kx_11, kx_12, kx_13, kx_14, kx_15, kx_16, kx_17, kx_33, kx_34, kx_50, kx_66, kx_67, kx_68, kx_69, kx_197, kx_198, kx_199, kx_200, kx_201, kx_202, kx_203, kx_204, kx_205, kx_206, kx_207, kx_208, kx_209, kx_210, rx_0_0, rx_0_1, rx_0_2, rx_0_3, rx_0_4, rx_0_5, rx_0_6, rx_0_7, rx_1_0, rx_1_1, rx_2_3, rx_2_4, rx_2_5, rx_2_6, rx_2_7, rx_2_8, rx_2_9, rx_10_0, rx_10_1, rx_10_2, rx_33_0, rx_33_1, rx_67_0, rx_68_0, rx_197_0, rx_199_5, rx_199_6, rx_199_7, rx_203_0, rx_203_1, rx_203_2, rx_206_0, rx_206_1, rx_206_2, rx_206_3, Option.bind_some, Option.toList_some, Option.toList_none, List.cons_append, List.nil_append, ↓reduceIte]; exact ⟨_, rfl⟩
          · rw [b119_34_c1 (x2 := nI 1) rfl]; simp +decide only [b119_72, S.n, S.k, S.r, hp_n_wi, hp_k_wi, hp_r_wi, hp_n_wl, hp_k_wl, hp_r_wl, hp_n_wb, hp_k_wb, hp_r_wb, zq_rf, kx_0, kx_1, kx_2, kx_3, kx_4, kx_5, kx_6, kx_7, kx_8, kx_9, kx_10, kx_11, kx_12, kx_13, kx_14, kx_15, kx_16, kx_17, kx_33, kx_34, kx_50, kx_66, kx_67, kx_68, kx_69, kx_197, kx_198, kx_199, kx_200, kx_201, kx_202, kx_203, kx_204, kx_205, kx_206, kx_207, kx_208, kx_209, kx_210, rx_0_0, rx_0_1, rx_0_2, rx_0_3, rx_0_4, rx_0_5, rx_0_6, rx_0_7, rx_1_0, rx_1_1, rx_2_3, rx_2_4, rx_2_5, rx_2_6, rx_2_7, rx_2_8, rx_2_9, rx_10_0, rx_10_1, rx_10_2, rx_33_0, rx_33_1, rx_67_0, rx_68_0, rx_197_0, rx_199_5, rx_199_6, rx_199_7, rx_203_0, rx_203_1, rx_203_2, rx_206_0, rx_206_1, rx_206_2, rx_206_3, Option.bind_some, Option.toList_some, Option.toList_none, List.cons_append, List.nil_append, ↓reduceIte]; exact ⟨_, rfl⟩
          · rw [b119_34_c2 (x2 := nI 2) rfl]; simp +decide only [b119_80, S.n, S.k, S.r, hp_n_wi, hp_k_wi, hp_r_wi, hp_n_wl, hp_k_wl, hp_r_wl, hp_n_wb, hp_k_wb, hp_r_wb, zq_rf, kx_0, kx_1, kx_2, kx_3, kx_4, kx_5, kx_6, kx_7, kx_8, kx_9, kx_10, kx_11, kx_12, kx_13, kx_14, kx_15, kx_16, kx_17, kx_33, kx_34, kx_50, kx_66, kx_67, kx_68, kx_69, kx_197, kx_198, kx_199, kx_200, kx_201, kx_202, kx_203, kx_204, kx_205, kx_206, kx_207, kx_208, kx_209, kx_210, rx_0_0, rx_0_1, rx_0_2, rx_0_3, rx_0_4, rx_0_5, rx_0_6, rx_0_7, rx_1_0, rx_1_1, rx_2_3, rx_2_4, rx_2_5, rx_2_6, rx_2_7, rx_2_8, rx_2_9, rx_10_0, rx_10_1, rx_10_2, rx_33_0, rx_33_1, rx_67_0, rx_68_0, rx_197_0, rx_199_5, rx_199_6, rx_199_7, rx_203_0, rx_203_1, rx_203_2, rx_206_0, rx_206_1, rx_206_2, rx_206_3, Option.bind_some, Option.toList_some, Option.toList_none, List.cons_append, List.nil_append, ↓reduceIte]; exact ⟨_, rfl⟩
          · rw [b119_34_c3 (x2 := nI 3) rfl]; simp +decide only [b119_88, S.n, S.k, S.r, hp_n_wi, hp_k_wi, hp_r_wi, hp_n_wl, hp_k_wl, hp_r_wl, hp_n_wb, hp_k_wb, hp_r_wb, zq_rf, kx_0, kx_1, kx_2, kx_3, kx_4, kx_5, kx_6, kx_7, kx_8, kx_9, kx_10, kx_11, kx_12, kx_13, kx_14, kx_15, kx_16, kx_17, kx_33, kx_34, kx_50, kx_66, kx_67, kx_68, kx_69, kx_197, kx_198, kx_199, kx_200, kx_201, kx_202, kx_203, kx_204, kx_205, kx_206, kx_207, kx_208, kx_209, kx_210, rx_0_0, rx_0_1, rx_0_2, rx_0_3, rx_0_4, rx_0_5, rx_0_6, rx_0_7, rx_1_0, rx_1_1, rx_2_3, rx_2_4, rx_2_5, rx_2_6, rx_2_7, rx_2_8, rx_2_9, rx_10_0, rx_10_1, rx_10_2, rx_33_0, rx_33_1, rx_67_0, rx_68_0, rx_197_0, rx_199_5, rx_199_6, rx_199_7, rx_203_0, rx_203_1, rx_203_2, rx_206_0, rx_206_1, rx_206_2, rx_206_3, Option.bind_some, Option.toList_some, Option.toList_none, List.cons_append, List.nil_append, ↓reduceIte]; exact ⟨_, rfl⟩
          · rw [b119_34_d (x2 := nI 4) (Or.inr (by decide))]; simp +decide only [b119_96, S.n, S.k, S.r, hp_n_wi, hp_k_wi, hp_r_wi, hp_n_wl, hp_k_wl, hp_r_wl, hp_n_wb, hp_k_wb, hp_r_wb, zq_rf, kx_0, kx_1, kx_2, kx_3, kx_4, kx_5, kx_6, kx_7, kx_8, kx_9, kx_10, kx_11, kx_12, kx_13, kx_14, kx_15, kx_16, kx_17, kx_33, kx_34, kx_50, kx_66, kx_67, kx_68, kx_69, kx_197, kx_198, kx_199, kx_200, kx_201, kx_202, kx_203, kx_204, kx_205, kx_206, kx_207, kx_208, kx_209, kx_210, rx_0_0, rx_0_1, rx_0_2, rx_0_3, rx_0_4, rx_0_5, rx_0_6, rx_0_7, rx_1_0, rx_1_1, rx_2_3, rx_2_4, rx_2_5, rx_2_6, rx_2_7, rx_2_8, rx_2_9, rx_10_0, rx_10_1, rx_10_2, rx_33_0, rx_33_1, rx_67_0, rx_68_0, rx_197_0, rx_199_5, rx_199_6, rx_199_7, rx_203_0, rx_203_1, rx_203_2, rx_206_0, rx_206_1, rx_206_2, rx_206_3, Option.bind_some, Option.toList_some, Option.toList_none, List.cons_append, List.nil_append, ↓reduceIte]; exact ⟨_, rfl⟩
        obtain ⟨v, ev⟩ := fin
        exact ⟨v, h', ev, O', F'⟩
  · refine CCw.same O ?_
    simp +decide only [b119_0, b119_4, b119_16, S.n, S.k, S.r, hp_n_wi, hp_k_wi, hp_r_wi, hp_n_wl, hp_k_wl, hp_r_wl, hp_n_wb, hp_k_wb, hp_r_wb, zq_rf, kx_0, kx_1, kx_2, kx_3, kx_4, kx_5, kx_6, kx_7, kx_8, kx_9, kx_10, kx_11, kx_12, kx_13, kx_14, kx_15, kx_16, kx_17, kx_33, kx_34, kx_50, kx_66, kx_67, kx_68, kx_69, kx_197, kx_198, kx_199, kx_200, kx_201, kx_202, kx_203, kx_204, kx_205, kx_206, kx_207, kx_208, kx_209, kx_210, rx_0_0, rx_0_1, rx_0_2, rx_0_3, rx_0_4, rx_0_5, rx_0_6, rx_0_7, rx_1_0, rx_1_1, rx_2_3, rx_2_4, rx_2_5, rx_2_6, rx_2_7, rx_2_8, rx_2_9, rx_10_0, rx_10_1, rx_10_2, rx_33_0, rx_33_1, rx_67_0, rx_68_0, rx_197_0, rx_199_5, rx_199_6, rx_199_7, rx_203_0, rx_203_1, rx_203_2, rx_206_0, rx_206_1, rx_206_2, rx_206_3, Option.bind_some, Option.toList_some, Option.toList_none, List.cons_append, List.nil_append, ↓reduceIte, p_135, decide_eq_false hv, zi_bI_f]; exact ⟨_, rfl⟩
theorem c_answw (O : GO h) (x w z : Int32) : CCw h (zv 17 120 0 [.ref 0, .int x, .int w, .int z] [] h) := by
  obtain ⟨S, -⟩ := id O
  by_cases hv : ¬ x < 0 ∧ x < 3
  · by_cases hw : ¬ w < 0 ∧ ¬ 7 < w
    · by_cases hz : z = 0 ∨ z = 1
      · obtain ⟨h', e, O', F'⟩ := w_svw O w x z
        have go : zv 17 120 0 [.ref 0, .int x, .int w, .int z] [] h = zv 17 120 37 [.ref 0, .int x, .int w, .int z] [] h' := by
          simp +decide only [b120_0, b120_4, b120_7, b120_11, b120_14, b120_18, b120_23, S.n, S.k, S.r, hp_n_wi, hp_k_wi, hp_r_wi, hp_n_wl, hp_k_wl, hp_r_wl, hp_n_wb, hp_k_wb, hp_r_wb, zq_rf, kx_0, kx_1, kx_2, kx_3, kx_4, kx_5, kx_6, kx_7, kx_8, kx_9, kx_10, kx_11, kx_12, kx_13, kx_14, kx_15, kx_16, kx_17, kx_33, kx_34, kx_50, kx_66, kx_67, kx_68, kx_69, kx_197, kx_198, kx_199, kx_200, kx_201, kx_202, kx_203, kx_204, kx_205, kx_206, kx_207, kx_208, kx_209, kx_210, rx_0_0, rx_0_1, rx_0_2, rx_0_3, rx_0_4, rx_0_5, rx_0_6, rx_0_7, rx_1_0, rx_1_1, rx_2_3, rx_2_4, rx_2_5, rx_2_6, rx_2_7, rx_2_8, rx_2_9, rx_10_0, rx_10_1, rx_10_2, rx_33_0, rx_33_1, rx_67_0, rx_68_0, rx_197_0, rx_199_5, rx_199_6, rx_199_7, rx_203_0, rx_203_1, rx_203_2, rx_206_0, rx_206_1, rx_206_2, rx_206_3, Option.bind_some, Option.toList_some, Option.toList_none, List.cons_append, List.nil_append, ↓reduceIte, p_133, p_135, p_136, decide_eq_true hv, decide_eq_true hw, decide_eq_true hz, zi_bI_t, e]
        have fin : ∃ v, zv 17 120 37 [.ref 0, .int x, .int w, .int z] [] h' = some (some (.int v), h') := by
          obtain ⟨S, -⟩ := id O'
          simp +decide only [b120_37, S.n, S.k, S.r, hp_n_wi, hp_k_wi, hp_r_wi, hp_n_wl, hp_k_wl, hp_r_wl, hp_n_wb, hp_k_wb, hp_r_wb, zq_rf, kx_0, kx_1, kx_2, kx_3, kx_4, kx_5, kx_6, kx_7, kx_8, kx_9, kx_10, kx_11, kx_12, kx_13, kx_14, kx_15, kx_16, kx_17, kx_33, kx_34, kx_50, kx_66, kx_67, kx_68, kx_69, kx_197, kx_198, kx_199, kx_200, kx_201, kx_202, kx_203, kx_204, kx_205, kx_206, kx_207, kx_208, kx_209, kx_210, rx_0_0, rx_0_1, rx_0_2, rx_0_3, rx_0_4, rx_0_5, rx_0_6, rx_0_7, rx_1_0, rx_1_1, rx_2_3, rx_2_4, rx_2_5, rx_2_6, rx_2_7, rx_2_8, rx_2_9, rx_10_0, rx_10_1, rx_10_2, rx_33_0, rx_33_1, rx_67_0, rx_68_0, rx_197_0, rx_199_5, rx_199_6, rx_199_7, rx_203_0, rx_203_1, rx_203_2, rx_206_0, rx_206_1, rx_206_2, rx_206_3, Option.bind_some, Option.toList_some, Option.toList_none, List.cons_append, List.nil_append, ↓reduceIte]; exact ⟨_, rfl⟩
        obtain ⟨v, ev⟩ := fin
        exact ⟨v, h', by rw [go, ev], O', F'⟩
      · refine CCw.same O ?_
        simp +decide only [b120_0, b120_4, b120_7, b120_11, b120_14, b120_18, b120_21, S.n, S.k, S.r, hp_n_wi, hp_k_wi, hp_r_wi, hp_n_wl, hp_k_wl, hp_r_wl, hp_n_wb, hp_k_wb, hp_r_wb, zq_rf, kx_0, kx_1, kx_2, kx_3, kx_4, kx_5, kx_6, kx_7, kx_8, kx_9, kx_10, kx_11, kx_12, kx_13, kx_14, kx_15, kx_16, kx_17, kx_33, kx_34, kx_50, kx_66, kx_67, kx_68, kx_69, kx_197, kx_198, kx_199, kx_200, kx_201, kx_202, kx_203, kx_204, kx_205, kx_206, kx_207, kx_208, kx_209, kx_210, rx_0_0, rx_0_1, rx_0_2, rx_0_3, rx_0_4, rx_0_5, rx_0_6, rx_0_7, rx_1_0, rx_1_1, rx_2_3, rx_2_4, rx_2_5, rx_2_6, rx_2_7, rx_2_8, rx_2_9, rx_10_0, rx_10_1, rx_10_2, rx_33_0, rx_33_1, rx_67_0, rx_68_0, rx_197_0, rx_199_5, rx_199_6, rx_199_7, rx_203_0, rx_203_1, rx_203_2, rx_206_0, rx_206_1, rx_206_2, rx_206_3, Option.bind_some, Option.toList_some, Option.toList_none, List.cons_append, List.nil_append, ↓reduceIte, p_133, p_135, p_136, decide_eq_true hv, decide_eq_true hw, decide_eq_false hz, zi_bI_t, zi_bI_f]; exact ⟨_, rfl⟩
    · refine CCw.same O ?_
      simp +decide only [b120_0, b120_4, b120_7, b120_11, b120_21, S.n, S.k, S.r, hp_n_wi, hp_k_wi, hp_r_wi, hp_n_wl, hp_k_wl, hp_r_wl, hp_n_wb, hp_k_wb, hp_r_wb, zq_rf, kx_0, kx_1, kx_2, kx_3, kx_4, kx_5, kx_6, kx_7, kx_8, kx_9, kx_10, kx_11, kx_12, kx_13, kx_14, kx_15, kx_16, kx_17, kx_33, kx_34, kx_50, kx_66, kx_67, kx_68, kx_69, kx_197, kx_198, kx_199, kx_200, kx_201, kx_202, kx_203, kx_204, kx_205, kx_206, kx_207, kx_208, kx_209, kx_210, rx_0_0, rx_0_1, rx_0_2, rx_0_3, rx_0_4, rx_0_5, rx_0_6, rx_0_7, rx_1_0, rx_1_1, rx_2_3, rx_2_4, rx_2_5, rx_2_6, rx_2_7, rx_2_8, rx_2_9, rx_10_0, rx_10_1, rx_10_2, rx_33_0, rx_33_1, rx_67_0, rx_68_0, rx_197_0, rx_199_5, rx_199_6, rx_199_7, rx_203_0, rx_203_1, rx_203_2, rx_206_0, rx_206_1, rx_206_2, rx_206_3, Option.bind_some, Option.toList_some, Option.toList_none, List.cons_append, List.nil_append, ↓reduceIte, p_133, p_135, decide_eq_true hv, decide_eq_false hw, zi_bI_t, zi_bI_f]; exact ⟨_, rfl⟩
  · refine CCw.same O ?_
    simp +decide only [b120_0, b120_4, b120_21, S.n, S.k, S.r, hp_n_wi, hp_k_wi, hp_r_wi, hp_n_wl, hp_k_wl, hp_r_wl, hp_n_wb, hp_k_wb, hp_r_wb, zq_rf, kx_0, kx_1, kx_2, kx_3, kx_4, kx_5, kx_6, kx_7, kx_8, kx_9, kx_10, kx_11, kx_12, kx_13, kx_14, kx_15, kx_16, kx_17, kx_33, kx_34, kx_50, kx_66, kx_67, kx_68, kx_69, kx_197, kx_198, kx_199, kx_200, kx_201, kx_202, kx_203, kx_204, kx_205, kx_206, kx_207, kx_208, kx_209, kx_210, rx_0_0, rx_0_1, rx_0_2, rx_0_3, rx_0_4, rx_0_5, rx_0_6, rx_0_7, rx_1_0, rx_1_1, rx_2_3, rx_2_4, rx_2_5, rx_2_6, rx_2_7, rx_2_8, rx_2_9, rx_10_0, rx_10_1, rx_10_2, rx_33_0, rx_33_1, rx_67_0, rx_68_0, rx_197_0, rx_199_5, rx_199_6, rx_199_7, rx_203_0, rx_203_1, rx_203_2, rx_206_0, rx_206_1, rx_206_2, rx_206_3, Option.bind_some, Option.toList_some, Option.toList_none, List.cons_append, List.nil_append, ↓reduceIte, p_133, decide_eq_false hv, zi_bI_f]; exact ⟨_, rfl⟩
theorem c_firsw (O : GO h) (x w z : Int32) : CCw h (zv 17 121 0 [.ref 0, .int x, .int w, .int z] [] h) := by
  obtain ⟨S, -⟩ := id O
  by_cases hv : ¬ x < 0 ∧ x < 3
  · by_cases hw : ¬ w < 0 ∧ ¬ 7 < w
    · by_cases hz : z = 0 ∨ z = 1
      · obtain ⟨h', e, O', F'⟩ := w_svw O w x z
        have go : zv 17 121 0 [.ref 0, .int x, .int w, .int z] [] h = zv 17 121 37 [.ref 0, .int x, .int w, .int z] [] h' := by
          simp +decide only [b121_0, b121_4, b121_7, b121_11, b121_14, b121_18, b121_23, S.n, S.k, S.r, hp_n_wi, hp_k_wi, hp_r_wi, hp_n_wl, hp_k_wl, hp_r_wl, hp_n_wb, hp_k_wb, hp_r_wb, zq_rf, kx_0, kx_1, kx_2, kx_3, kx_4, kx_5, kx_6, kx_7, kx_8, kx_9, kx_10, kx_11, kx_12, kx_13, kx_14, kx_15, kx_16, kx_17, kx_33, kx_34, kx_50, kx_66, kx_67, kx_68, kx_69, kx_197, kx_198, kx_199, kx_200, kx_201, kx_202, kx_203, kx_204, kx_205, kx_206, kx_207, kx_208, kx_209, kx_210, rx_0_0, rx_0_1, rx_0_2, rx_0_3, rx_0_4, rx_0_5, rx_0_6, rx_0_7, rx_1_0, rx_1_1, rx_2_3, rx_2_4, rx_2_5, rx_2_6, rx_2_7, rx_2_8, rx_2_9, rx_10_0, rx_10_1, rx_10_2, rx_33_0, rx_33_1, rx_67_0, rx_68_0, rx_197_0, rx_199_5, rx_199_6, rx_199_7, rx_203_0, rx_203_1, rx_203_2, rx_206_0, rx_206_1, rx_206_2, rx_206_3, Option.bind_some, Option.toList_some, Option.toList_none, List.cons_append, List.nil_append, ↓reduceIte, p_133, p_135, p_136, decide_eq_true hv, decide_eq_true hw, decide_eq_true hz, zi_bI_t, e]
        have fin : ∃ v, zv 17 121 37 [.ref 0, .int x, .int w, .int z] [] h' = some (some (.int v), h') := by
          obtain ⟨S, -⟩ := id O'
          simp +decide only [b121_37, S.n, S.k, S.r, hp_n_wi, hp_k_wi, hp_r_wi, hp_n_wl, hp_k_wl, hp_r_wl, hp_n_wb, hp_k_wb, hp_r_wb, zq_rf, kx_0, kx_1, kx_2, kx_3, kx_4, kx_5, kx_6, kx_7, kx_8, kx_9, kx_10, kx_11, kx_12, kx_13, kx_14, kx_15, kx_16, kx_17, kx_33, kx_34, kx_50, kx_66, kx_67, kx_68, kx_69, kx_197, kx_198, kx_199, kx_200, kx_201, kx_202, kx_203, kx_204, kx_205, kx_206, kx_207, kx_208, kx_209, kx_210, rx_0_0, rx_0_1, rx_0_2, rx_0_3, rx_0_4, rx_0_5, rx_0_6, rx_0_7, rx_1_0, rx_1_1, rx_2_3, rx_2_4, rx_2_5, rx_2_6, rx_2_7, rx_2_8, rx_2_9, rx_10_0, rx_10_1, rx_10_2, rx_33_0, rx_33_1, rx_67_0, rx_68_0, rx_197_0, rx_199_5, rx_199_6, rx_199_7, rx_203_0, rx_203_1, rx_203_2, rx_206_0, rx_206_1, rx_206_2, rx_206_3, Option.bind_some, Option.toList_some, Option.toList_none, List.cons_append, List.nil_append, ↓reduceIte]; exact ⟨_, rfl⟩
        obtain ⟨v, ev⟩ := fin
        exact ⟨v, h', by rw [go, ev], O', F'⟩
      · refine CCw.same O ?_
        simp +decide only [b121_0, b121_4, b121_7, b121_11, b121_14, b121_18, b121_21, S.n, S.k, S.r, hp_n_wi, hp_k_wi, hp_r_wi, hp_n_wl, hp_k_wl, hp_r_wl, hp_n_wb, hp_k_wb, hp_r_wb, zq_rf, kx_0, kx_1, kx_2, kx_3, kx_4, kx_5, kx_6, kx_7, kx_8, kx_9, kx_10, kx_11, kx_12, kx_13, kx_14, kx_15, kx_16, kx_17, kx_33, kx_34, kx_50, kx_66, kx_67, kx_68, kx_69, kx_197, kx_198, kx_199, kx_200, kx_201, kx_202, kx_203, kx_204, kx_205, kx_206, kx_207, kx_208, kx_209, kx_210, rx_0_0, rx_0_1, rx_0_2, rx_0_3, rx_0_4, rx_0_5, rx_0_6, rx_0_7, rx_1_0, rx_1_1, rx_2_3, rx_2_4, rx_2_5, rx_2_6, rx_2_7, rx_2_8, rx_2_9, rx_10_0, rx_10_1, rx_10_2, rx_33_0, rx_33_1, rx_67_0, rx_68_0, rx_197_0, rx_199_5, rx_199_6, rx_199_7, rx_203_0, rx_203_1, rx_203_2, rx_206_0, rx_206_1, rx_206_2, rx_206_3, Option.bind_some, Option.toList_some, Option.toList_none, List.cons_append, List.nil_append, ↓reduceIte, p_133, p_135, p_136, decide_eq_true hv, decide_eq_true hw, decide_eq_false hz, zi_bI_t, zi_bI_f]; exact ⟨_, rfl⟩
    · refine CCw.same O ?_
      simp +decide only [b121_0, b121_4, b121_7, b121_11, b121_21, S.n, S.k, S.r, hp_n_wi, hp_k_wi, hp_r_wi, hp_n_wl, hp_k_wl, hp_r_wl, hp_n_wb, hp_k_wb, hp_r_wb, zq_rf, kx_0, kx_1, kx_2, kx_3, kx_4, kx_5, kx_6, kx_7, kx_8, kx_9, kx_10, kx_11, kx_12, kx_13, kx_14, kx_15, kx_16, kx_17, kx_33, kx_34, kx_50, kx_66, kx_67, kx_68, kx_69, kx_197, kx_198, kx_199, kx_200, kx_201, kx_202, kx_203, kx_204, kx_205, kx_206, kx_207, kx_208, kx_209, kx_210, rx_0_0, rx_0_1, rx_0_2, rx_0_3, rx_0_4, rx_0_5, rx_0_6, rx_0_7, rx_1_0, rx_1_1, rx_2_3, rx_2_4, rx_2_5, rx_2_6, rx_2_7, rx_2_8, rx_2_9, rx_10_0, rx_10_1, rx_10_2, rx_33_0, rx_33_1, rx_67_0, rx_68_0, rx_197_0, rx_199_5, rx_199_6, rx_199_7, rx_203_0, rx_203_1, rx_203_2, rx_206_0, rx_206_1, rx_206_2, rx_206_3, Option.bind_some, Option.toList_some, Option.toList_none, List.cons_append, List.nil_append, ↓reduceIte, p_133, p_135, decide_eq_true hv, decide_eq_false hw, zi_bI_t, zi_bI_f]; exact ⟨_, rfl⟩
  · refine CCw.same O ?_
    simp +decide only [b121_0, b121_4, b121_21, S.n, S.k, S.r, hp_n_wi, hp_k_wi, hp_r_wi, hp_n_wl, hp_k_wl, hp_r_wl, hp_n_wb, hp_k_wb, hp_r_wb, zq_rf, kx_0, kx_1, kx_2, kx_3, kx_4, kx_5, kx_6, kx_7, kx_8, kx_9, kx_10, kx_11, kx_12, kx_13, kx_14, kx_15, kx_16, kx_17, kx_33, kx_34, kx_50, kx_66, kx_67, kx_68, kx_69, kx_197, kx_198, kx_199, kx_200, kx_201, kx_202, kx_203, kx_204, kx_205, kx_206, kx_207, kx_208, kx_209, kx_210, rx_0_0, rx_0_1, rx_0_2, rx_0_3, rx_0_4, rx_0_5, rx_0_6, rx_0_7, rx_1_0, rx_1_1, rx_2_3, rx_2_4, rx_2_5, rx_2_6, rx_2_7, rx_2_8, rx_2_9, rx_10_0, rx_10_1, rx_10_2, rx_33_0, rx_33_1, rx_67_0, rx_68_0, rx_197_0, rx_199_5, rx_199_6, rx_199_7, rx_203_0, rx_203_1, rx_203_2, rx_206_0, rx_206_1, rx_206_2, rx_206_3, Option.bind_some, Option.toList_some, Option.toList_none, List.cons_append, List.nil_append, ↓reduceIte, p_133, decide_eq_false hv, zi_bI_f]; exact ⟨_, rfl⟩
def CLw (h : zi_Hp) (o : Option zi_Rt) : Prop := ∃ (v : Int64) (h' : zi_Hp), o = some (some (.long v), h') ∧ GO h' ∧ Fw h h'
theorem c_chanw (O : GO h) (x w z t : Int32) {u5 u6 : Value} : CLw h (zv 17 122 0 [.ref 0, .int x, .int w, .int z, .int t, u5, u6] [] h) := by
  obtain ⟨S, -⟩ := id O
  by_cases hv : ¬ x < 0 ∧ x < 3
  · by_cases hw : ¬ w < 0 ∧ ¬ 7 < w
    · by_cases hz : z = 0 ∨ z = 1
      · by_cases ht : t = 0 ∨ t = 1
        · obtain ⟨h', e, O', F'⟩ := w_svw O w x z
          have go : zv 17 122 0 [.ref 0, .int x, .int w, .int z, .int t, u5, u6] [] h = zv 17 122 47 [.ref 0, .int x, .int w, .int z, .int t, u5, u6] [] h' := by
            simp +decide only [b122_0, b122_4, b122_7, b122_11, b122_14, b122_18, b122_21, b122_26, b122_33, S.n, S.k, S.r, hp_n_wi, hp_k_wi, hp_r_wi, hp_n_wl, hp_k_wl, hp_r_wl, hp_n_wb, hp_k_wb, hp_r_wb, zq_rf, kx_0, kx_1, kx_2, kx_3, kx_4, kx_5, kx_6, kx_7, kx_8, kx_9, kx_10, kx_11, kx_12, kx_13, kx_14, kx_15, kx_16, kx_17, kx_33, kx_34, kx_50, kx_66, kx_67, kx_68, kx_69, kx_197, kx_198, kx_199, kx_200, kx_201, kx_202, kx_203, kx_204, kx_205, kx_206, kx_207, kx_208, kx_209, kx_210, rx_0_0, rx_0_1, rx_0_2, rx_0_3, rx_0_4, rx_0_5, rx_0_6, rx_0_7, rx_1_0, rx_1_1, rx_2_3, rx_2_4, rx_2_5, rx_2_6, rx_2_7, rx_2_8, rx_2_9, rx_10_0, rx_10_1, rx_10_2, rx_33_0, rx_33_1, rx_67_0, rx_68_0, rx_197_0, rx_199_5, rx_199_6, rx_199_7, rx_203_0, rx_203_1, rx_203_2, rx_206_0, rx_206_1, rx_206_2, rx_206_3, Option.bind_some, Option.toList_some, Option.toList_none, List.cons_append, List.nil_append, ↓reduceIte, p_133, p_135, p_136, decide_eq_true hv, decide_eq_true hw, decide_eq_true hz, decide_eq_true ht, zi_bI_t, e]
          obtain ⟨S, -⟩ := id O'
          obtain ⟨g, eg⟩ : ∃ g : Int64, zv 1 140 0 [.long (zh_l h' 67 8), .double 1, .long 279936, .double 1, .double 0, .double 0, .double 0, .double 0, .double 0, .double 0, .double 0] [] h' = some (some (.long g), h') := by
            rw [b140_0]; exact w_gd 100 0 rfl
          have go2 : zv 17 122 47 [.ref 0, .int x, .int w, .int z, .int t, u5, u6] [] h' = if 0 < lg_cmp g 0 then zv 17 122 73 [.ref 0, .int x, .int w, .int z, .int t, .long g, .double 1] [] h' else zv 17 122 69 [.ref 0, .int x, .int w, .int z, .int t, .long g, .double 1] [] h' := by
            simp +decide only [b122_47, b122_60, S.n, S.k, S.r, hp_n_wi, hp_k_wi, hp_r_wi, hp_n_wl, hp_k_wl, hp_r_wl, hp_n_wb, hp_k_wb, hp_r_wb, zq_rf, kx_0, kx_1, kx_2, kx_3, kx_4, kx_5, kx_6, kx_7, kx_8, kx_9, kx_10, kx_11, kx_12, kx_13, kx_14, kx_15, kx_16, kx_17, kx_33, kx_34, kx_50, kx_66, kx_67, kx_68, kx_69, kx_197, kx_198, kx_199, kx_200, kx_201, kx_202, kx_203, kx_204, kx_205, kx_206, kx_207, kx_208, kx_209, kx_210, rx_0_0, rx_0_1, rx_0_2, rx_0_3, rx_0_4, rx_0_5, rx_0_6, rx_0_7, rx_1_0, rx_1_1, rx_2_3, rx_2_4, rx_2_5, rx_2_6, rx_2_7, rx_2_8, rx_2_9, rx_10_0, rx_10_1, rx_10_2, rx_33_0, rx_33_1, rx_67_0, rx_68_0, rx_197_0, rx_199_5, rx_199_6, rx_199_7, rx_203_0, rx_203_1, rx_203_2, rx_206_0, rx_206_1, rx_206_2, rx_206_3, Option.bind_some, Option.toList_some, Option.toList_none, List.cons_append, List.nil_append, ↓reduceIte, eg]
          rw [go, go2]
          by_cases q : 0 < lg_cmp g 0
          · have hg : ¬ g = 0 := fun q2 => by rw [q2] at q; exact absurd q (by decide)
            rw [if_pos q, b122_73]
            by_cases q0 : t = 0
            · refine ⟨zh_l h' 67 8 / g, h', ?_, O', F'⟩
              simp +decide only [if_pos q0, b122_78, b122_91 hg, S.n, S.k, S.r, hp_n_wi, hp_k_wi, hp_r_wi, hp_n_wl, hp_k_wl, hp_r_wl, hp_n_wb, hp_k_wb, hp_r_wb, zq_rf, kx_0, kx_1, kx_2, kx_3, kx_4, kx_5, kx_6, kx_7, kx_8, kx_9, kx_10, kx_11, kx_12, kx_13, kx_14, kx_15, kx_16, kx_17, kx_33, kx_34, kx_50, kx_66, kx_67, kx_68, kx_69, kx_197, kx_198, kx_199, kx_200, kx_201, kx_202, kx_203, kx_204, kx_205, kx_206, kx_207, kx_208, kx_209, kx_210, rx_0_0, rx_0_1, rx_0_2, rx_0_3, rx_0_4, rx_0_5, rx_0_6, rx_0_7, rx_1_0, rx_1_1, rx_2_3, rx_2_4, rx_2_5, rx_2_6, rx_2_7, rx_2_8, rx_2_9, rx_10_0, rx_10_1, rx_10_2, rx_33_0, rx_33_1, rx_67_0, rx_68_0, rx_197_0, rx_199_5, rx_199_6, rx_199_7, rx_203_0, rx_203_1, rx_203_2, rx_206_0, rx_206_1, rx_206_2, rx_206_3, Option.bind_some, Option.toList_some, Option.toList_none, List.cons_append, List.nil_append, ↓reduceIte]
            · exact ⟨279936 / g, h', by rw [if_neg q0, b122_88, b122_91 hg], O', F'⟩
          · exact ⟨-1, h', by rw [if_neg q, b122_69], O', F'⟩
        · exact ⟨-1, h, by simp +decide only [b122_0, b122_4, b122_7, b122_11, b122_14, b122_18, b122_21, b122_26, b122_29, S.n, S.k, S.r, hp_n_wi, hp_k_wi, hp_r_wi, hp_n_wl, hp_k_wl, hp_r_wl, hp_n_wb, hp_k_wb, hp_r_wb, zq_rf, kx_0, kx_1, kx_2, kx_3, kx_4, kx_5, kx_6, kx_7, kx_8, kx_9, kx_10, kx_11, kx_12, kx_13, kx_14, kx_15, kx_16, kx_17, kx_33, kx_34, kx_50, kx_66, kx_67, kx_68, kx_69, kx_197, kx_198, kx_199, kx_200, kx_201, kx_202, kx_203, kx_204, kx_205, kx_206, kx_207, kx_208, kx_209, kx_210, rx_0_0, rx_0_1, rx_0_2, rx_0_3, rx_0_4, rx_0_5, rx_0_6, rx_0_7, rx_1_0, rx_1_1, rx_2_3, rx_2_4, rx_2_5, rx_2_6, rx_2_7, rx_2_8, rx_2_9, rx_10_0, rx_10_1, rx_10_2, rx_33_0, rx_33_1, rx_67_0, rx_68_0, rx_197_0, rx_199_5, rx_199_6, rx_199_7, rx_203_0, rx_203_1, rx_203_2, rx_206_0, rx_206_1, rx_206_2, rx_206_3, Option.bind_some, Option.toList_some, Option.toList_none, List.cons_append, List.nil_append, ↓reduceIte, p_133, p_135, p_136, decide_eq_true hv, decide_eq_true hw, decide_eq_true hz, decide_eq_false ht, zi_bI_t, zi_bI_f], O, Fw.refl h⟩
      · exact ⟨-1, h, by simp +decide only [b122_0, b122_4, b122_7, b122_11, b122_14, b122_18, b122_29, S.n, S.k, S.r, hp_n_wi, hp_k_wi, hp_r_wi, hp_n_wl, hp_k_wl, hp_r_wl, hp_n_wb, hp_k_wb, hp_r_wb, zq_rf, kx_0, kx_1, kx_2, kx_3, kx_4, kx_5, kx_6, kx_7, kx_8, kx_9, kx_10, kx_11, kx_12, kx_13, kx_14, kx_15, kx_16, kx_17, kx_33, kx_34, kx_50, kx_66, kx_67, kx_68, kx_69, kx_197, kx_198, kx_199, kx_200, kx_201, kx_202, kx_203, kx_204, kx_205, kx_206, kx_207, kx_208, kx_209, kx_210, rx_0_0, rx_0_1, rx_0_2, rx_0_3, rx_0_4, rx_0_5, rx_0_6, rx_0_7, rx_1_0, rx_1_1, rx_2_3, rx_2_4, rx_2_5, rx_2_6, rx_2_7, rx_2_8, rx_2_9, rx_10_0, rx_10_1, rx_10_2, rx_33_0, rx_33_1, rx_67_0, rx_68_0, rx_197_0, rx_199_5, rx_199_6, rx_199_7, rx_203_0, rx_203_1, rx_203_2, rx_206_0, rx_206_1, rx_206_2, rx_206_3, Option.bind_some, Option.toList_some, Option.toList_none, List.cons_append, List.nil_append, ↓reduceIte, p_133, p_135, p_136, decide_eq_true hv, decide_eq_true hw, decide_eq_false hz, zi_bI_t, zi_bI_f], O, Fw.refl h⟩
    · exact ⟨-1, h, by simp +decide only [b122_0, b122_4, b122_7, b122_11, b122_29, S.n, S.k, S.r, hp_n_wi, hp_k_wi, hp_r_wi, hp_n_wl, hp_k_wl, hp_r_wl, hp_n_wb, hp_k_wb, hp_r_wb, zq_rf, kx_0, kx_1, kx_2, kx_3, kx_4, kx_5, kx_6, kx_7, kx_8, kx_9, kx_10, kx_11, kx_12, kx_13, kx_14, kx_15, kx_16, kx_17, kx_33, kx_34, kx_50, kx_66, kx_67, kx_68, kx_69, kx_197, kx_198, kx_199, kx_200, kx_201, kx_202, kx_203, kx_204, kx_205, kx_206, kx_207, kx_208, kx_209, kx_210, rx_0_0, rx_0_1, rx_0_2, rx_0_3, rx_0_4, rx_0_5, rx_0_6, rx_0_7, rx_1_0, rx_1_1, rx_2_3, rx_2_4, rx_2_5, rx_2_6, rx_2_7, rx_2_8, rx_2_9, rx_10_0, rx_10_1, rx_10_2, rx_33_0, rx_33_1, rx_67_0, rx_68_0, rx_197_0, rx_199_5, rx_199_6, rx_199_7, rx_203_0, rx_203_1, rx_203_2, rx_206_0, rx_206_1, rx_206_2, rx_206_3, Option.bind_some, Option.toList_some, Option.toList_none, List.cons_append, List.nil_append, ↓reduceIte, p_133, p_135, decide_eq_true hv, decide_eq_false hw, zi_bI_t, zi_bI_f], O, Fw.refl h⟩
  · exact ⟨-1, h, by simp +decide only [b122_0, b122_4, b122_29, S.n, S.k, S.r, hp_n_wi, hp_k_wi, hp_r_wi, hp_n_wl, hp_k_wl, hp_r_wl, hp_n_wb, hp_k_wb, hp_r_wb, zq_rf, kx_0, kx_1, kx_2, kx_3, kx_4, kx_5, kx_6, kx_7, kx_8, kx_9, kx_10, kx_11, kx_12, kx_13, kx_14, kx_15, kx_16, kx_17, kx_33, kx_34, kx_50, kx_66, kx_67, kx_68, kx_69, kx_197, kx_198, kx_199, kx_200, kx_201, kx_202, kx_203, kx_204, kx_205, kx_206, kx_207, kx_208, kx_209, kx_210, rx_0_0, rx_0_1, rx_0_2, rx_0_3, rx_0_4, rx_0_5, rx_0_6, rx_0_7, rx_1_0, rx_1_1, rx_2_3, rx_2_4, rx_2_5, rx_2_6, rx_2_7, rx_2_8, rx_2_9, rx_10_0, rx_10_1, rx_10_2, rx_33_0, rx_33_1, rx_67_0, rx_68_0, rx_197_0, rx_199_5, rx_199_6, rx_199_7, rx_203_0, rx_203_1, rx_203_2, rx_206_0, rx_206_1, rx_206_2, rx_206_3, Option.bind_some, Option.toList_some, Option.toList_none, List.cons_append, List.nil_append, ↓reduceIte, p_133, decide_eq_false hv, zi_bI_f], O, Fw.refl h⟩
/-- numbers that RX looks at -/
def vi (a j : Nat) : Prop := (a = 197 ∧ j = 1) ∨ a = 198 ∨ a = 204 ∨ a = 205 ∨ (207 ≤ a ∧ a ≤ 210) ∨ (a = 0 ∧ j = 8) ∨ (a = 211 ∧ (j = 8 ∨ j = 38)) ∨ a = 213 ∨ a = 218 ∨ a = 230 ∨ a = 231 ∨ a = 232
theorem RX.sm (X : RX h) (e1 : ∀ a j, 34 ≤ a → a ≤ 66 → zh_i h1 a j = zh_i h a j ∧ zh_b h1 a j = zh_b h a j) (e14 : ∀ j, zh_b h1 214 j = zh_b h 214 j) (ei : ∀ a j, vi a j → zh_i h1 a j = zh_i h a j) : RX h1 := by
  obtain ⟨x1, x2, x3, x4, x5, x6⟩ := X
  have e8 := ei 211 8 (by unfold vi; omega)
  refine ⟨fun k hk => ?_, by rw [ei 197 1 (by unfold vi; omega), e8]; exact x2, x3.same e8 (fun j => ei 198 j (by unfold vi; omega)) (fun j => ei 218 j (by unfold vi; omega)), x4.same (fun k => ⟨ei 204 k (by unfold vi; omega), ei 205 k (by unfold vi; omega), ei 230 k (by unfold vi; omega), ei 231 k (by unfold vi; omega)⟩), x5.same (fun a j q1 q2 => ei a j (by unfold vi; omega)) (fun j => ei 232 j (by unfold vi; omega)), by rw [ei 0 8 (by unfold vi; omega), ei 211 38 (by unfold vi; omega)]; exact x6⟩
  obtain ⟨z1, z2⟩ := x1 k hk
  refine ⟨by rw [(e1 66 k (by decide) (by decide)).2, e14]; exact z1, fun hb => ?_⟩
  rw [e14] at hb
  exact ((z2 hb).sw (SW.of (fun o j ho => (e1 _ _ (by omega) (by omega)).1) (fun o j ho => (e1 _ _ (by omega) (by omega)).2))).congr (fun j hj => ei _ _ (by unfold vi; omega))
/-- a walk of both is done -/
theorem R3.wk0 {L : Nat} (R : R3 L h) {m1 m2 : zi_Hp} (O1 : GO m1) (F1 : Fw h m1) (O2 : RO m2) (F2 : Fz m1 m2) : Sh m1 ∧ zh_L m1 = L ∧ zh_x m1 = zh_x h ∧ R3 L m2 := by
  have Fb1 : Fb h m1 := F1.1.1.1
  obtain ⟨⟨⟨⟨F0, f230⟩, f8⟩, f18, f38⟩, g12, g13, g14⟩ := F2
  have lo : ∀ a j, a < 67 ∨ (197 ≤ a ∧ a < 211) → zh_i m2 a j = zh_i h a j ∧ zh_b m2 a j = zh_b h a j := fun a j ha => ⟨(F0.1 a j (by omega)).1.trans (F1.2 a j (by omega)).1, (F0.1 a j (by omega)).2.1.trans (F1.2 a j (by omega)).2⟩
  have up1 : ∀ a j, 211 ≤ a → zh_i m1 a j = zh_i h a j := fun a j ha => (Fb1.1 a j ha).1
  refine ⟨O1.1, Fb1.2.1.trans R.2.2.2.2, Fb1.2.2, O2, O1.fx O2.1 F0, R.2.2.1.of1 (fun o j ho => lo _ _ (by omega)) (fun j hj => (g12 j hj).trans (up1 212 j (by decide))), R.2.2.2.1.sm (fun a j q1 q2 => lo a j (by omega)) (fun j => (g14 j).trans (Fb1.1 214 j (by decide)).2.1) (fun a j vv => ?_), F0.2.1.trans (Fb1.2.1.trans R.2.2.2.2)⟩
  by_cases ha : a < 211
  · exact (lo a j (by unfold vi at vv; omega)).1
  · rw [← up1 a j (by omega)]
    unfold vi at vv
    have : (a = 211 ∧ j = 8) ∨ (a = 211 ∧ j = 38) ∨ a = 213 ∨ a = 218 ∨ a = 230 ∨ a = 231 ∨ a = 232 := by omega
    rcases this with ⟨rfl, rfl⟩ | ⟨rfl, rfl⟩ | rfl | rfl | rfl | rfl | rfl
    · exact f8
    · exact f38
    · exact g13 j
    · exact (f18 j).1
    · exact (f230 j).1
    · exact (f230 j).2
    · exact (f18 j).2
theorem R3.wk {L : Nat} (R : R3 L h) {o : Option zi_Rt} {F : zi_Hp → Option zi_Rt} (c : CCw h o) (c2 : ∀ {h1 : zi_Hp}, RO h1 → RCq h1 (F h1)) : Al2 L h o F := by
  obtain ⟨v, h1, e1, O1, F1⟩ := c
  obtain ⟨v2, h2, e2, O2, F2⟩ := c2 (R.1.fc O1.1 F1.1.1.1)
  obtain ⟨S1, l1, x1, R2⟩ := R.wk0 O1 F1 O2 F2
  exact ⟨v, v2, h1, h2, e1, S1, l1, x1, e2, R2⟩
theorem a_rows {L : Nat} (R : R3 L h) (x w : Int32) : Al2 L h (zv 17 119 0 [.ref 0, .int x, .int w] [] h) (fun m => zv 8 218 0 [.ref 211, .int x, .int w] [] m) := R.wk (c_roww R.2.1 x w) (fun O => o_rowq O x w)
theorem a_answers {L : Nat} (R : R3 L h) (x w z : Int32) : Al2 L h (zv 17 120 0 [.ref 0, .int x, .int w, .int z] [] h) (fun m => zv 8 220 0 [.ref 211, .int x, .int w, .int z] [] m) := R.wk (c_answw R.2.1 x w z) (fun O => o_answeq O x w z)
theorem a_first {L : Nat} (R : R3 L h) (x w z : Int32) : Al2 L h (zv 17 121 0 [.ref 0, .int x, .int w, .int z] [] h) (fun m => zv 8 221 0 [.ref 211, .int x, .int w, .int z] [] m) := R.wk (c_firsw R.2.1 x w z) (fun O => o_firsq O x w z)
/-- a long answer, two -/
def AlL2 (L : Nat) (h : zi_Hp) (o : Option zi_Rt) (F : zi_Hp → Option zi_Rt) : Prop := ∃ (v v2 : Int64) (h1 h2 : zi_Hp), o = some (some (.long v), h1) ∧ Sh h1 ∧ zh_L h1 = L ∧ zh_x h1 = zh_x h ∧ F h1 = some (some (.long v2), h2) ∧ R3 L h2
theorem a_chance {L : Nat} (R : R3 L h) (x w z t : Int32) {u5 u6 u7 u8 : Value} : AlL2 L h (zv 17 122 0 [.ref 0, .int x, .int w, .int z, .int t, u5, u6] [] h) (fun m => zv 8 223 0 [.ref 211, .int x, .int w, .int z, .int t, u7, u8] [] m) := by
  obtain ⟨v, h1, e1, O1, F1⟩ := c_chanw R.2.1 x w z t (u5 := u5) (u6 := u6)
  obtain ⟨v2, h2, e2, O2, F2⟩ := o_chancq (R.1.fc O1.1 F1.1.1.1) x w z t (u5 := u7) (u6 := u8)
  obtain ⟨S1, l1, x1, R2⟩ := R.wk0 O1 F1 O2 F2
  exact ⟨v, v2, h1, h2, e1, S1, l1, x1, e2, R2⟩
end R34U
