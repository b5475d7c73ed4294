/-! BOTH SIDES: all that always holds of the whole memory -/
/-- the images are alike -/
def IM (h : zi_Hp) : Prop := ∀ k, k < 2 → zh_b h 66 k = zh_b h 214 k ∧ (zh_b h 214 k = true → Gs (wx h (34 + 16 * k)) (wy h (34 + 16 * k)) (fun j => zh_i h 213 (387 * k + j)))
/-- the tape is -/
def TP (h : zi_Hp) : Prop := ∀ t, t ≤ 160 → zh_i h 211 8 = nI t → ∀ j, j < t → zh_i h 198 j = zh_i h 218 j ∧ ∃ b, b ≤ 127 ∧ zh_i h 218 j = nI b
/-- the sheets' lanes, lengths are -/
def SHT (h : zi_Hp) : Prop := ∀ k, k < 4 → (zh_i h 204 k = -4 ∧ zh_i h 230 k = -4) ∨ (¬ zh_i h 230 k = -4 ∧ zh_i h 205 k = zh_i h 230 k ∧ ∃ z, z ≤ 40 ∧ zh_i h 204 k = nI z ∧ zh_i h 231 k = nI z)
/-- their cells are -/
def SC (h : zi_Hp) : Prop := ∀ k, k < 4 → ∀ i, i < 40 → zh_i h (207 + k) i = zh_i h 232 (40 * k + i)
def RX (h : zi_Hp) : Prop := IM h ∧ zh_i h 197 1 = zh_i h 211 8 ∧ TP h ∧ SHT h ∧ SC h ∧ zh_i h 0 8 = zh_i h 211 38
/-- cells that RX looks at -/
def vc (a j : Nat) : Prop := (34 ≤ a ∧ a ≤ 66) ∨ (a = 197 ∧ j = 1) ∨ a = 198 ∨ a = 204 ∨ a = 205 ∨ (207 ≤ a ∧ a ≤ 210) ∨ (a = 0 ∧ j = 8) ∨ a = 213 ∨ a = 214 ∨ (a = 211 ∧ (j = 8 ∨ j = 38)) ∨ a = 218 ∨ a = 230 ∨ a = 231 ∨ a = 232
def R3 (L : Nat) (h : zi_Hp) : Prop := RO h ∧ GO h ∧ Gs (wx h 1) (wy h 1) (zh_i h 212) ∧ RX h ∧ zh_L h = L
/-- a call of both: one answer, and all holds behind it -/
def Al (L : Nat) (h : zi_Hp) (o : Option zi_Rt) (F : zi_Hp → Option zi_Rt) : Prop := ∃ v h1 h2, o = some (some (.int v), h1) ∧ Sh h1 ∧ zh_L h1 = L ∧ zh_x h1 = zh_x h ∧ F h1 = some (some (.int v), h2) ∧ R3 L h2
/-- two answers -/
def Al2 (L : Nat) (h : zi_Hp) (o : Option zi_Rt) (F : zi_Hp → Option zi_Rt) : Prop := ∃ v v2 h1 h2, o = some (some (.int v), h1) ∧ Sh h1 ∧ zh_L h1 = L ∧ zh_x h1 = zh_x h ∧ F h1 = some (some (.int v2), h2) ∧ R3 L h2
/-- a long answer -/
def AlL (L : Nat) (h : zi_Hp) (o : Option zi_Rt) (F : zi_Hp → Option zi_Rt) : Prop := ∃ (v : Int64) (h1 h2 : zi_Hp), o = some (some (.long v), h1) ∧ Sh h1 ∧ zh_L h1 = L ∧ zh_x h1 = zh_x h ∧ F h1 = some (some (.long v), h2) ∧ R3 L h2
section R34F
variable {h h1 h2 : zi_Hp} {L : Nat}
theorem Al.al2 {o : Option zi_Rt} {F : zi_Hp → Option zi_Rt} (p : Al L h o F) : Al2 L h o F := by
  obtain ⟨v, h1, h2, e, q⟩ := p
  exact ⟨v, v, h1, h2, e, q⟩
theorem RX.same (X : RX h) (e : ∀ a j, vc a j → zh_i h2 a j = zh_i h a j ∧ zh_b h2 a j = zh_b h a j) : RX h2 := by
  obtain ⟨x1, x2, x3, x4, x5, x6⟩ := X
  have ei : ∀ a j, vc a j → zh_i h2 a j = zh_i h a j := fun a j v => (e a j v).1
  have e8 := ei 211 8 (by unfold vc; omega)
  refine ⟨fun k hk => ?_, by rw [ei 197 1 (by unfold vc; omega), e8]; exact x2, fun t ht et j hj => ?_, fun k hk => ?_, fun k hk i hi => ?_, by rw [ei 0 8 (by unfold vc; omega), ei 211 38 (by unfold vc; omega)]; exact x6⟩
  · obtain ⟨y1, y2⟩ := x1 k hk
    have eb := (e 214 k (by unfold vc; omega)).2
    refine ⟨by rw [(e 66 k (by unfold vc; omega)).2, eb]; exact y1, fun hb => ?_⟩
    rw [eb] at hb
    refine ((y2 hb).sw (SW.of (fun o j ho => (e (34 + 16 * k + o) j (by unfold vc; omega)).1) (fun o j ho => (e (34 + 16 * k + o) j (by unfold vc; omega)).2))).congr (fun j _ => ?_)
    exact ei 213 (387 * k + j) (by unfold vc; omega)
  · rw [e8] at et
    rw [ei 198 j (by unfold vc; omega), ei 218 j (by unfold vc; omega)]
    exact x3 t ht et j hj
  · rw [ei 204 k (by unfold vc; omega), ei 205 k (by unfold vc; omega), ei 230 k (by unfold vc; omega), ei 231 k (by unfold vc; omega)]
    exact x4 k hk
  · rw [ei (207 + k) i (by unfold vc; omega), ei 232 (40 * k + i) (by unfold vc; omega)]
    exact x5 k hk i hi
theorem RO.fc (O : RO h) (S1 : Sh h1) (F : Fb h h1) : RO h1 := by
  obtain ⟨-, J, k⟩ := O
  exact ⟨S1, J.congr (fun j _ => (F.1 212 j (by decide)).1), k.same (F.1 211 8 (by decide)).1 (fun j => (F.1 213 j (by decide)).1) (fun j => (F.1 214 j (by decide)).2.1) (fun j => (F.1 231 j (by decide)).1)⟩
theorem GO.fx (O : GO h) (S1 : Sh h1) (F : Fx0 h h1) : GO h1 := O.of S1 (fun W V o j ho => by
  have := V.l2
  exact ⟨(F.1 (W + o) j (by omega)).1, (F.1 (W + o) j (by omega)).2.1⟩)
theorem zC_vc {x : Nat → Nat → Int32} {y : Nat → Nat → Bool} {a j : Nat} (v : vc a j) : zh_i (zC h 1 x y) a j = zh_i h a j ∧ zh_b (zC h 1 x y) a j = zh_b h a j := by
  have : a < 1 ∨ 1 + 16 ≤ a := by unfold vc at v; omega
  exact ⟨zC_io j this, zC_bo j this⟩
theorem zQ_vc {q : zQs} {s : Nat → Int32} {a j : Nat} (v : vc a j) : zh_i (zQ h q s) a j = zh_i h a j ∧ zh_b (zQ h q s) a j = zh_b h a j := by
  by_cases e : a = 211
  · have hj : j ≠ 5 := by unfold vc at v; omega
    subst e
    exact ⟨zQ_211 hj, zQ_bo j (by decide)⟩
  · exact ⟨zQ_o j e (by unfold vc at v; omega) (by unfold vc at v; omega) (by unfold vc at v; omega), zQ_bo j (by unfold vc at v; omega)⟩
theorem Gs.of1 {s s' : Nat → Int32} (G : Gs (wx h 1) (wy h 1) s) (e : ∀ o j, o < 16 → zh_i h1 (1 + o) j = zh_i h (1 + o) j ∧ zh_b h1 (1 + o) j = zh_b h (1 + o) j) (es : ∀ j, j < 387 → s' j = s j) : Gs (wx h1 1) (wy h1 1) s' := (G.sw (SW.of (fun o j ho => (e o j ho).1) (fun o j ho => (e o j ho).2))).congr es
/-- other cells have changed -/
theorem R3.vw (R : R3 L h) (O : RO h2) (P : GO h2) (e1 : ∀ o j, o < 16 → zh_i h2 (1 + o) j = zh_i h (1 + o) j ∧ zh_b h2 (1 + o) j = zh_b h (1 + o) j) (e2 : ∀ j, j < 387 → zh_i h2 212 j = zh_i h 212 j) (e : ∀ a j, vc a j → zh_i h2 a j = zh_i h a j ∧ zh_b h2 a j = zh_b h a j) (eL : zh_L h2 = zh_L h) : R3 L h2 := ⟨O, P, R.2.2.1.of1 e1 e2, R.2.2.2.1.same e, eL.trans R.2.2.2.2⟩
theorem JW.al (R : R3 L h) {o : Option zi_Rt} {F : zi_Hp → Option zi_Rt} (J : JW h (zh_i h 212) o F) : Al L h o F := by
  obtain ⟨r, g, G, X, l⟩ := R
  obtain ⟨v, x', y', s', e, G', er⟩ := J
  have O1 : GO (zC h 1 x' y') := g.zC V1 G'.gw
  have F1 : Fb h (zC h 1 x' y') := (Fc.zC V1).1.1
  have Q1 : RO (zC h 1 x' y') := r.fc O1.1 F1
  obtain ⟨q', e2⟩ := er (zC h 1 x' y') (zh_i (zC h 1 x' y') 215, zh_i (zC h 1 x' y') 216, zh_i (zC h 1 x' y') 211 5, zh_b (zC h 1 x' y') 217) O1.1
  have es : zh_i (zC h 1 x' y') 212 = zh_i h 212 := funext (fun j => zC_io j (by omega))
  rw [← es, zQ_id] at e2
  have S2 : Sh (zQ (zC h 1 x' y') q' s') := zQ_S O1.1
  have F2 : Fx0 (zC h 1 x' y') (zQ (zC h 1 x' y') q' s') := Fr.zQ.1.1
  refine ⟨v, _, _, e, O1.1, F1.2.1.trans l, F1.2.2, e2, ⟨S2, by rw [zQ_row]; exact G'.inv, Q1.2.2.zQ⟩, O1.fx S2 F2, ?_, X.same (fun a j vv => ⟨(zQ_vc vv).1.trans (zC_vc vv).1, (zQ_vc vv).2.trans (zC_vc vv).2⟩), F2.2.1.trans (F1.2.1.trans l)⟩
  rw [zQ_row]
  exact G'.sw (SW.of (fun o j ho => by
    show zh_i (zQ (zC h 1 x' y') q' s') (1 + o) j = _
    rw [zQ_o j (by omega) (by omega) (by omega) (by omega), zC_i ho]) (fun o j ho => by
    show zh_b (zQ (zC h 1 x' y') q' s') (1 + o) j = _
    rw [zQ_bo j (by omega), zC_b ho]))
theorem a_rule (R : R3 L h) (x : Int32) : Al L h (zv 6 109 0 [.ref 0, .int x] [] h) (fun m => zv 6 201 0 [.ref 211, .int x] [] m) := by
  obtain ⟨v, e, er⟩ := j_rule R.2.1 R.2.2.1 x
  exact JW.al R (JW.same R.2.2.1 v e (fun h1 q S => er S))
theorem a_node (R : R3 L h) (x w : Int32) : Al L h (zv 3 110 0 [.ref 0, .int x, .int w, .double 0] [] h) (fun m => zv 3 202 0 [.ref 211, .int x, .int w] [] m) := by
  obtain ⟨v, e, er⟩ := j_node R.2.1 R.2.2.1 x w
  exact JW.al R (JW.same R.2.2.1 v e (fun h1 q S => er S))
theorem a_entry (R : R3 L h) (x i w : Int32) {u : Value} : Al L h (zv 3 111 0 [.ref 0, .int x, .int i, .int w, u] [] h) (fun m => zv 3 203 0 [.ref 211, .int x, .int i, .int w] [] m) := by
  obtain ⟨v, e, er⟩ := j_entry R.2.1 R.2.2.1 x i w
  exact JW.al R (JW.same R.2.2.1 v (e u) (fun h1 q S => er S))
theorem a_client (R : R3 L h) (x w : Int32) {u : Value} : Al L h (zv 2 112 0 [.ref 0, .int x, .int w, u] [] h) (fun m => zv 3 204 0 [.ref 211, .int x, .int w] [] m) := by
  obtain ⟨v, e, er⟩ := j_client R.2.1 R.2.2.1 x w
  exact JW.al R (JW.same R.2.2.1 v (e u) (fun h1 q S => er S))
theorem a_there (R : R3 L h) (x : Int32) : Al L h (zv 2 113 0 [.ref 0, .int x] [] h) (fun m => zv 4 205 0 [.ref 211, .int x] [] m) := by
  obtain ⟨v, e, er⟩ := j_there R.2.1 R.2.2.1 x
  exact JW.al R (JW.same R.2.2.1 v e (fun h1 q S => er S))
theorem a_begin (R : R3 L h) (x a k : Int32) {u u' : Value} : Al L h (zv 5 114 0 [.ref 0, .int x, .int a, .int k, u] [] h) (fun m => zv 5 206 0 [.ref 211, .int x, .int a, .int k, u'] [] m) := JW.al R (j_begin R.2.1 R.2.2.1 x a k)
theorem a_step (R : R3 L h) (x : Int32) : Al L h (zv 6 115 0 [.ref 0, .int x] [] h) (fun m => zv 7 207 0 [.ref 211, .int x] [] m) := JW.al R (j_stepc R.2.1 R.2.2.1 x)
theorem a_go (R : R3 L h) (x w : Int32) : Al L h (zv 7 116 0 [.ref 0, .int x, .int w] [] h) (fun m => zv 8 208 0 [.ref 211, .int x, .int w] [] m) := JW.al R (j_go R.2.1 R.2.2.1 x w)
theorem a_drop (R : R3 L h) (x : Int32) {u : Value} : Al L h (zv 2 117 0 [.ref 0, .int x, u] [] h) (fun m => zv 3 209 0 [.ref 211, .int x] [] m) := JW.al R (j_drop R.2.1 R.2.2.1 x)
theorem a_room (R : R3 L h) (x : Int32) {u u' : Value} : Al L h (zv 2 118 0 [.ref 0, .int x, u] [] h) (fun m => zv 2 210 0 [.ref 211, .int x, u'] [] m) := JW.al R (j_room R.2.1 R.2.2.1 x)
theorem a_check (R : R3 L h) {u : Value} : Al L h (zv 6 123 0 [.ref 0, u] [] h) (fun m => zv 5 230 0 [.ref 211] [] m) := by
  obtain ⟨v, e, er⟩ := j_check R.2.1 R.2.2.1
  exact JW.al R (JW.same R.2.2.1 v (e u) (fun h1 q S => er h1 q S))
theorem a_leaf (R : R3 L h) (x : Int32) {u2 u3 : Value} : Al L h (zv 4 124 0 [.ref 0, .int x] [] h) (fun m => zv 2 231 0 [.ref 211, .int x, u2, u3] [] m) := by
  obtain ⟨v, e, er⟩ := j_leaf R.2.1 R.2.2.1 x
  exact JW.al R (JW.same R.2.2.1 v e (fun h1 q S => er S))
/-- calls that change nothing that matters, two answers -/
theorem R3.two (R : R3 L h) {o : Option zi_Rt} {F : zi_Hp → Option zi_Rt} (c : CC h o) (c2 : ∀ {h1 : zi_Hp}, RO h1 → RC h1 (F h1)) (e : ∀ {v h1}, o = some (some (.int v), h1) → h1 = h) (e2 : ∀ {v h2}, F h = some (some (.int v), h2) → ∃ q, h2 = zQ h q (zh_i h 212)) : Al2 L h o F := by
  obtain ⟨v, h1, e1, O1, F1⟩ := c
  obtain rfl := e e1
  obtain ⟨v2, h2, f1, O2, F2⟩ := c2 R.1
  obtain ⟨q, rfl⟩ := e2 f1
  refine ⟨v, v2, h1, _, e1, O1.1, R.2.2.2.2, rfl, f1, R.vw O2 (R.2.1.fx O2.1 F2.1.1) (fun o j ho => ⟨zQ_o j (by omega) (by omega) (by omega) (by omega), zQ_bo j (by omega)⟩) (fun j _ => by rw [zQ_212]) (fun a j vv => zQ_vc vv) rfl⟩
theorem a_torn (R : R3 L h) : Al L h (zv 1 130 0 [.ref 0] [] h) (fun m => zv 1 238 0 [.ref 211] [] m) := by
  have S := R.1.1
  refine ⟨zh_i h 0 8, h, h, by simp +decide only [b130_0, S.n, S.k, S.r, hp_n_wi, hp_k_wi, hp_r_wi, hp_n_wl, hp_k_wl, hp_r_wl, hp_n_wb, hp_k_wb, hp_r_wb, zq_rf, kx_0, kx_1, kx_2, kx_3, kx_4, kx_5, kx_6, kx_7, kx_8, kx_9, kx_10, kx_11, kx_12, kx_13, kx_14, kx_15, kx_16, kx_17, kx_33, kx_34, kx_50, kx_66, kx_67, kx_68, kx_69, kx_197, kx_198, kx_199, kx_200, kx_201, kx_202, kx_203, kx_204, kx_205, kx_206, kx_207, kx_208, kx_209, kx_210, rx_0_0, rx_0_1, rx_0_2, rx_0_3, rx_0_4, rx_0_5, rx_0_6, rx_0_7, rx_1_0, rx_1_1, rx_2_3, rx_2_4, rx_2_5, rx_2_6, rx_2_7, rx_2_8, rx_2_9, rx_10_0, rx_10_1, rx_10_2, rx_33_0, rx_33_1, rx_67_0, rx_68_0, rx_197_0, rx_199_5, rx_199_6, rx_199_7, rx_203_0, rx_203_1, rx_203_2, rx_206_0, rx_206_1, rx_206_2, rx_206_3, Option.bind_some, Option.toList_some, Option.toList_none, List.cons_append, List.nil_append, ↓reduceIte], S, R.2.2.2.2, rfl, ?_, R⟩
  show zv 1 238 0 _ _ h = _
  rw [b238_0 (S_g0 S) (S_g1 S), R.2.2.2.1.2.2.2.2.2]
theorem a_fault (R : R3 L h) : Al2 L h (zv 1 108 0 [.ref 0] [] h) (fun m => zv 1 193 0 [.ref 211] [] m) := by
  have S := R.1.1
  refine ⟨zh_i h 199 3, zh_i h 211 13, h, h, by simp +decide only [b108_0, S.n, S.k, S.r, hp_n_wi, hp_k_wi, hp_r_wi, hp_n_wl, hp_k_wl, hp_r_wl, hp_n_wb, hp_k_wb, hp_r_wb, zq_rf, kx_0, kx_1, kx_2, kx_3, kx_4, kx_5, kx_6, kx_7, kx_8, kx_9, kx_10, kx_11, kx_12, kx_13, kx_14, kx_15, kx_16, kx_17, kx_33, kx_34, kx_50, kx_66, kx_67, kx_68, kx_69, kx_197, kx_198, kx_199, kx_200, kx_201, kx_202, kx_203, kx_204, kx_205, kx_206, kx_207, kx_208, kx_209, kx_210, rx_0_0, rx_0_1, rx_0_2, rx_0_3, rx_0_4, rx_0_5, rx_0_6, rx_0_7, rx_1_0, rx_1_1, rx_2_3, rx_2_4, rx_2_5, rx_2_6, rx_2_7, rx_2_8, rx_2_9, rx_10_0, rx_10_1, rx_10_2, rx_33_0, rx_33_1, rx_67_0, rx_68_0, rx_197_0, rx_199_5, rx_199_6, rx_199_7, rx_203_0, rx_203_1, rx_203_2, rx_206_0, rx_206_1, rx_206_2, rx_206_3, Option.bind_some, Option.toList_some, Option.toList_none, List.cons_append, List.nil_append, ↓reduceIte], S, R.2.2.2.2, rfl, ?_, R⟩
  show zv 1 193 0 _ _ h = _
  rw [b193_0 (S_g0 S) (S_g1 S)]
end R34F
