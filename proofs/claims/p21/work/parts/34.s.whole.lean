/-! BOTH SIDES: a whole text -/
/-- what the class's text leaves as it was -/
def CT (h h2 : zi_Hp) : Prop := ∀ a j, (a = 0 ∨ (17 ≤ a ∧ a ≤ 66) ∨ (207 ≤ a ∧ a ≤ 210)) → zh_i h2 a j = zh_i h a j ∧ (a ≠ 66 → zh_b h2 a j = zh_b h a j)
/-- what the reference's leaves -/
def OT (h1 m : zi_Hp) : Prop := (∀ a j, a = 213 ∨ a = 232 → zh_i m a j = zh_i h1 a j) ∧ zh_i m 211 38 = zh_i h1 211 38
section R34S
variable {h h1 h2 : zi_Hp} {a p A K F w T Fd : Nat → Int32} {b bR : Bool} {t n L : Nat}
/-- the class begins to read -/
theorem c_ini (S : Sh h) (ht : t ≤ 160) (et : zh_i h 197 1 = nI t) {u : Value} : ∃ h0 a p F, zv 7 13 0 [.ref 199, .ref 197, u] [] h = zv 7 13 49 [.ref 199, .ref 197, .int (nI 0)] [] (zS h0 a p (zh_i h0 200) (zh_i h0 201) F false) ∧ Sh h0 ∧ (∀ a j, a ≠ 199 → a ≠ 202 → zh_i h0 a j = zh_i h a j) ∧ (∀ a j, a ≠ 199 → zh_b h0 a j = zh_b h a j) ∧ TA (zh_i h0 198) a t 0 ∧ p 0 = nI 0 ∧ p 1 = nI 3 ∧ p 2 = nI 0 ∧ p 3 = 0 ∧ ∀ c, c < 3 → F c < 0 := by
  have k9 : zh_k h 199 = (1, 9) := by rw [S.k, kx_199]
  have r7 : zh_r h 199 7 = .ref 202 := by rw [S.r, rx_199_7]
  have n9 : (199 : Nat) < zh_n h := by rw [S.n]; decide
  obtain ⟨h0, eh0⟩ : ∃ h0, h0 = zh_wi (zh_wi (zh_wi (zh_wb (zh_wi (zh_wi h 199 0 0) 199 1 3) 199 8 false) 199 2 0) 199 3 0) 199 4 0 := ⟨_, rfl⟩
  have S0 : Sh h0 := by rw [eh0]; exact (((((S.wi _ _ _).wi _ _ _).wb _ _ _).wi _ _ _).wi _ _ _).wi _ _ _
  have i0 : ∀ a j, a ≠ 199 → zh_i h0 a j = zh_i h a j := fun a j q => by rw [eh0, hp_i_wi, if_neg (by omega), hp_i_wi, if_neg (by omega), hp_i_wi, if_neg (by omega), hp_i_wb, hp_i_wi, if_neg (by omega), hp_i_wi, if_neg (by omega)]
  have b0 : ∀ a j, a ≠ 199 → zh_b h0 a j = zh_b h a j := fun a j q => by
    rw [eh0, hp_b_wi, hp_b_wi, hp_b_wi, hp_b_wb, if_neg (by omega), hp_b_wi, hp_b_wi]
  have bf : zh_b h0 199 8 = false := by
    rw [eh0, hp_b_wi, hp_b_wi, hp_b_wi, hp_b_wb, if_pos ⟨rfl, rfl⟩]
  have q0 : zh_i h0 199 0 = nI 0 := by rw [eh0, hp_i_wi, if_neg (by decide), hp_i_wi, if_neg (by decide), hp_i_wi, if_neg (by decide), hp_i_wb, hp_i_wi, if_neg (by decide), hp_i_wi, if_pos ⟨rfl, rfl⟩]; rfl
  have q1 : zh_i h0 199 1 = nI 3 := by rw [eh0, hp_i_wi, if_neg (by decide), hp_i_wi, if_neg (by decide), hp_i_wi, if_neg (by decide), hp_i_wb, hp_i_wi, if_pos ⟨rfl, rfl⟩]; rfl
  have q2 : zh_i h0 199 2 = nI 0 := by rw [eh0, hp_i_wi, if_neg (by decide), hp_i_wi, if_neg (by decide), hp_i_wi, if_pos ⟨rfl, rfl⟩]; rfl
  have q3 : zh_i h0 199 3 = 0 := by rw [eh0, hp_i_wi, if_neg (by decide), hp_i_wi, if_pos ⟨rfl, rfl⟩]
  have e1' := c_fill (h := h0) (a := 202) (N := 3) (v := -4) (by rw [S0.n]; decide) (by rw [S0.k, kx_202]) (by decide)
  obtain ⟨h1, eh1⟩ : ∃ h1, h1 = zh_fi h0 202 3 (-4) := ⟨_, rfl⟩
  have S1 : Sh h1 := by rw [eh1]; exact S0
  have i1 : ∀ a j, a ≠ 202 → zh_i h1 a j = zh_i h0 a j := fun a j q => by rw [eh1, hp_i_fi, if_neg (by omega)]
  have b1 : ∀ a j, zh_b h1 a j = zh_b h0 a j := fun a j => by rw [eh1]; rfl
  rw [← eh1] at e1'
  have T1 : TJ (up (zh_i h1 197) 5 (nI 0)) t 0 := ⟨ht, by rw [up_n _ _ (by decide), i1 _ _ (by decide), i0 _ _ (by decide)]; exact et, Nat.zero_le _, up_s _ _ _⟩
  obtain ⟨a2, e2, T2⟩ := x_sc S1 (p := zh_i h1 199) (A := zh_i h1 200) (K := zh_i h1 201) (F := zh_i h1 202) (b := zh_b h1 199 8) T1 (u := .double 0)
  have ew : zh_wi h1 197 5 0 = zS h1 (up (zh_i h1 197) 5 (nI 0)) (zh_i h1 199) (zh_i h1 200) (zh_i h1 201) (zh_i h1 202) (zh_b h1 199 8) := by
    have q := zS_w7 (h := h1) (a := zh_i h1 197) (p := zh_i h1 199) (A := zh_i h1 200) (K := zh_i h1 201) (F := zh_i h1 202) (b := zh_b h1 199 8) 5 0
    rw [zS_id] at q; exact q
  have e29 : zv 1 29 0 [.ref 197] [] h1 = some (none, zh_wi h1 197 5 0) := by rw [b29_0 (by rw [S1.n]; decide) (by rw [S1.k, kx_197])]
  have go : zv 7 13 0 [.ref 199, .ref 197, u] [] h = (zv 1 241 0 [.ref 202, .int (-4), .double 0, .double 0] [] h0).bind fun r => zv 7 13 39 [.ref 199, .ref 197, u] (r.1.toList ++ []) r.2 := by
    simp +decide only [b13_0, S.n, S.k, S.r, hp_n_wi, hp_k_wi, hp_r_wi, hp_n_wl, hp_k_wl, hp_r_wl, hp_n_wb, hp_k_wb, hp_r_wb, zq_rf, kx_0, kx_1, kx_2, kx_3, kx_4, kx_5, kx_6, kx_7, kx_8, kx_9, kx_10, kx_11, kx_12, kx_13, kx_14, kx_15, kx_16, kx_17, kx_33, kx_34, kx_50, kx_66, kx_67, kx_68, kx_69, kx_197, kx_198, kx_199, kx_200, kx_201, kx_202, kx_203, kx_204, kx_205, kx_206, kx_207, kx_208, kx_209, kx_210, rx_0_0, rx_0_1, rx_0_2, rx_0_3, rx_0_4, rx_0_5, rx_0_6, rx_0_7, rx_1_0, rx_1_1, rx_2_3, rx_2_4, rx_2_5, rx_2_6, rx_2_7, rx_2_8, rx_2_9, rx_10_0, rx_10_1, rx_10_2, rx_33_0, rx_33_1, rx_67_0, rx_68_0, rx_197_0, rx_199_5, rx_199_6, rx_199_7, rx_203_0, rx_203_1, rx_203_2, rx_206_0, rx_206_1, rx_206_2, rx_206_3, Option.bind_some, Option.toList_some, Option.toList_none, List.cons_append, List.nil_append, ↓reduceIte]
    rw [← eh0]
  refine ⟨h1, a2, zh_i h1 199, zh_i h1 202, ?_, S1, fun a j z1 z2 => by rw [i1 _ _ z2, i0 _ _ z1], fun a j z1 => by rw [b1, b0 _ _ z1], T2, by rw [i1 _ _ (by decide)]; exact q0, by rw [i1 _ _ (by decide)]; exact q1, by rw [i1 _ _ (by decide)]; exact q2, by rw [i1 _ _ (by decide)]; exact q3, fun c hc => by rw [eh1, hp_i_fi, if_pos ⟨rfl, hc⟩]; decide⟩
  rw [go, e1']
  simp only [Option.bind_some, Option.toList_some, Option.toList_none, List.cons_append, List.nil_append]
  rw [b13_39 (by rw [S1.n]; decide) (by rw [S1.k, kx_197]), e29]
  simp only [Option.bind_some, Option.toList_some, Option.toList_none, List.cons_append, List.nil_append]
  rw [ew, b13_43 (s_g0 S1) (s_g1 S1), e2]
  simp only [Option.bind_some, Option.toList_some, Option.toList_none, List.cons_append, List.nil_append]
  rw [b13_47, b1, bf]
  rfl
/-- the class's end of a text -/
theorem c_tx (S : Sh h) (S0 : Sh h2) (e1 : zv 7 13 0 [.ref 199, .ref 197, .double 0] [] h = some (none, zS h2 a p A K F b)) : zv 8 107 0 [.ref 0] [] h = if p 3 = 0 then zv 8 107 40 [.ref 0] [] (zS h2 (up a 1 0) p A K F b) else some (some (.int (-10 - p 4)), zS h2 (up a 1 0) p A K F b) := by
  have ew : zh_wi (zS h2 a p A K F b) 197 1 0 = zS h2 (up a 1 0) p A K F b := by rw [zS_w7]
  have g1 : zv 8 107 0 [.ref 0] [] h = zv 8 107 11 [.ref 0] [] (zS h2 a p A K F b) := by
    simp +decide only [b107_0, S.n, S.k, S.r, hp_n_wi, hp_k_wi, hp_r_wi, hp_n_wl, hp_k_wl, hp_r_wl, hp_n_wb, hp_k_wb, hp_r_wb, zq_rf, kx_0, kx_1, kx_2, kx_3, kx_4, kx_5, kx_6, kx_7, kx_8, kx_9, kx_10, kx_11, kx_12, kx_13, kx_14, kx_15, kx_16, kx_17, kx_33, kx_34, kx_50, kx_66, kx_67, kx_68, kx_69, kx_197, kx_198, kx_199, kx_200, kx_201, kx_202, kx_203, kx_204, kx_205, kx_206, kx_207, kx_208, kx_209, kx_210, rx_0_0, rx_0_1, rx_0_2, rx_0_3, rx_0_4, rx_0_5, rx_0_6, rx_0_7, rx_1_0, rx_1_1, rx_2_3, rx_2_4, rx_2_5, rx_2_6, rx_2_7, rx_2_8, rx_2_9, rx_10_0, rx_10_1, rx_10_2, rx_33_0, rx_33_1, rx_67_0, rx_68_0, rx_197_0, rx_199_5, rx_199_6, rx_199_7, rx_203_0, rx_203_1, rx_203_2, rx_206_0, rx_206_1, rx_206_2, rx_206_3, Option.bind_some, Option.toList_some, Option.toList_none, List.cons_append, List.nil_append, ↓reduceIte, e1]
  have g2 : zv 8 107 11 [.ref 0] [] (zS h2 a p A K F b) = zv 8 107 23 [.ref 0] [.ref 199] (zS h2 (up a 1 0) p A K F b) := by
    have S : Sh (zS h2 a p A K F b) := zS_S S0
    simp +decide only [b107_11, S.n, S.k, S.r, hp_n_wi, hp_k_wi, hp_r_wi, hp_n_wl, hp_k_wl, hp_r_wl, hp_n_wb, hp_k_wb, hp_r_wb, zq_rf, kx_0, kx_1, kx_2, kx_3, kx_4, kx_5, kx_6, kx_7, kx_8, kx_9, kx_10, kx_11, kx_12, kx_13, kx_14, kx_15, kx_16, kx_17, kx_33, kx_34, kx_50, kx_66, kx_67, kx_68, kx_69, kx_197, kx_198, kx_199, kx_200, kx_201, kx_202, kx_203, kx_204, kx_205, kx_206, kx_207, kx_208, kx_209, kx_210, rx_0_0, rx_0_1, rx_0_2, rx_0_3, rx_0_4, rx_0_5, rx_0_6, rx_0_7, rx_1_0, rx_1_1, rx_2_3, rx_2_4, rx_2_5, rx_2_6, rx_2_7, rx_2_8, rx_2_9, rx_10_0, rx_10_1, rx_10_2, rx_33_0, rx_33_1, rx_67_0, rx_68_0, rx_197_0, rx_199_5, rx_199_6, rx_199_7, rx_203_0, rx_203_1, rx_203_2, rx_206_0, rx_206_1, rx_206_2, rx_206_3, Option.bind_some, Option.toList_some, Option.toList_none, List.cons_append, List.nil_append, ↓reduceIte]
    rw [ew]
  have g3 : ∀ {m : zi_Hp}, Sh m → zv 8 107 23 [.ref 0] [.ref 199] m = if zh_i m 199 3 = 0 then zv 8 107 40 [.ref 0] [] m else zv 8 107 29 [.ref 0] [] m := fun {m} S => by
    simp +decide only [b107_23, S.n, S.k, S.r, hp_n_wi, hp_k_wi, hp_r_wi, hp_n_wl, hp_k_wl, hp_r_wl, hp_n_wb, hp_k_wb, hp_r_wb, zq_rf, kx_0, kx_1, kx_2, kx_3, kx_4, kx_5, kx_6, kx_7, kx_8, kx_9, kx_10, kx_11, kx_12, kx_13, kx_14, kx_15, kx_16, kx_17, kx_33, kx_34, kx_50, kx_66, kx_67, kx_68, kx_69, kx_197, kx_198, kx_199, kx_200, kx_201, kx_202, kx_203, kx_204, kx_205, kx_206, kx_207, kx_208, kx_209, kx_210, rx_0_0, rx_0_1, rx_0_2, rx_0_3, rx_0_4, rx_0_5, rx_0_6, rx_0_7, rx_1_0, rx_1_1, rx_2_3, rx_2_4, rx_2_5, rx_2_6, rx_2_7, rx_2_8, rx_2_9, rx_10_0, rx_10_1, rx_10_2, rx_33_0, rx_33_1, rx_67_0, rx_68_0, rx_197_0, rx_199_5, rx_199_6, rx_199_7, rx_203_0, rx_203_1, rx_203_2, rx_206_0, rx_206_1, rx_206_2, rx_206_3, Option.bind_some, Option.toList_some, Option.toList_none, List.cons_append, List.nil_append, ↓reduceIte]
  have g4 : ∀ {m : zi_Hp}, Sh m → zv 8 107 29 [.ref 0] [] m = some (some (.int (-10 - zh_i m 199 4)), m) := fun {m} S => by
    simp +decide only [b107_29, S.n, S.k, S.r, hp_n_wi, hp_k_wi, hp_r_wi, hp_n_wl, hp_k_wl, hp_r_wl, hp_n_wb, hp_k_wb, hp_r_wb, zq_rf, kx_0, kx_1, kx_2, kx_3, kx_4, kx_5, kx_6, kx_7, kx_8, kx_9, kx_10, kx_11, kx_12, kx_13, kx_14, kx_15, kx_16, kx_17, kx_33, kx_34, kx_50, kx_66, kx_67, kx_68, kx_69, kx_197, kx_198, kx_199, kx_200, kx_201, kx_202, kx_203, kx_204, kx_205, kx_206, kx_207, kx_208, kx_209, kx_210, rx_0_0, rx_0_1, rx_0_2, rx_0_3, rx_0_4, rx_0_5, rx_0_6, rx_0_7, rx_1_0, rx_1_1, rx_2_3, rx_2_4, rx_2_5, rx_2_6, rx_2_7, rx_2_8, rx_2_9, rx_10_0, rx_10_1, rx_10_2, rx_33_0, rx_33_1, rx_67_0, rx_68_0, rx_197_0, rx_199_5, rx_199_6, rx_199_7, rx_203_0, rx_203_1, rx_203_2, rx_206_0, rx_206_1, rx_206_2, rx_206_3, Option.bind_some, Option.toList_some, Option.toList_none, List.cons_append, List.nil_append, ↓reduceIte]
  rw [g1, g2, g3 (zS_S S0), g4 (zS_S S0), zS_9, zS_9]
theorem j_text (S : Sh h) (ht : t ≤ 160) (et : zh_i h 197 1 = nI t) (S1 : Sh h1) (Q : BT (zh_i h 198) h1 t) {u1 u2 : Value} : ∃ v h2 m, zv 8 107 0 [.ref 0] [] h = some (some (.int v), h2) ∧ zv 8 192 0 [.ref 211, u1, u2] [] h1 = some (some (.int v), m) ∧ CT h h2 ∧ OT h1 m ∧ (((∀ o j, o < 16 → zh_i h2 (1 + o) j = zh_i h (1 + o) j ∧ zh_b h2 (1 + o) j = zh_b h (1 + o) j) ∧ (∀ j, zh_i m 212 j = zh_i h1 212 j) ∧ (∀ k, zh_b h2 66 k = zh_b h 66 k) ∧ ∀ k, zh_b m 214 k = zh_b h1 214 k) ∨ (Gs (wx h2 1) (wy h2 1) (zh_i m 212) ∧ ∀ k, k < 2 → zh_b h2 66 k = false ∧ zh_b m 214 k = false)) := by
  obtain ⟨h0, a, p, F, e0, S0, i0, b0, E, p0, p1, p2, p3, hF⟩ := c_ini S ht et (u := .double 0)
  have e8 : zh_i h 198 = zh_i h0 198 := funext (fun j => (i0 _ _ (by decide) (by decide)).symm)
  rw [e8] at Q
  have r0 : zv 8 192 0 [.ref 211, u1, u2] [] h1 = zv 8 192 0 [.ref 211, u1, u2] [] (zP h1 (zh_i h1 211) (zh_i h1 219) (zh_i h1 220) (zh_b h1 211 15)) := by rw [zP_id]
  obtain ⟨w0, hw0⟩ : ∃ w0, w0 = up (up (up (up (up (zh_i h1 211) 13 0) 9 0) 16 3) 18 0) 20 0 := ⟨_, rfl⟩
  have w9 : w0 9 = nI 0 := by rw [hw0]; rfl
  have w13 : w0 13 = 0 := by rw [hw0]; rfl
  have w16 : w0 16 = nI 3 := by rw [hw0]; rfl
  have w18 : w0 18 = nI 0 := by rw [hw0]; rfl
  have w20 : w0 20 = nI 0 := by rw [hw0]; rfl
  obtain ⟨w', ew, W, hw⟩ := y_rd S1 Q (w := w0) (T := zh_i h1 219) (F := zh_i h1 220) (b := false) (n := 0) (Nat.zero_le _) w9 w13 (u := .double 0)
  have r1 : zv 8 192 0 [.ref 211, u1, u2] [] h1 = zv 8 192 36 [.ref 211, .int (nI 0), u2] [] (zP h1 w' (zh_i h1 219) (zh_i h1 220) false) := by
    rw [r0, b192_0 (p_g0 S1) (p_g1 S1), zP_ww _ (by decide) (by decide), zP_ww _ (by decide) (by decide), zP_wb, zP_ww _ (by decide) (by decide), zP_ww _ (by decide) (by decide), zP_ww _ (by decide) (by decide), ← hw0, ew]
    simp only [Option.bind_some, Option.toList_some, Option.toList_none, List.cons_append, List.nil_append]
    rfl
  have D : DT p (zh_i h0 200) (zh_i h0 201) F false w' (zh_i h1 219) (zh_i h1 220) false := ⟨rfl, ⟨3, by decide, by decide, p1, by rw [hw 16 (by decide)]; exact w16⟩, ⟨0, by decide, p2, by rw [hw 18 (by decide)]; exact w18, fun i hi => absurd hi (Nat.not_lt_zero _)⟩, ⟨0, by decide, by rw [hw 20 (by decide)]; exact w20, fun i hi => absurd hi (Nat.not_lt_zero _), fun c hc => Or.inl (hF c hc), fun i j _ hj => absurd hj (Nat.not_lt_zero _)⟩, p3⟩
  have X := j_tl S0 S1 Q (u2 := u2) 160 0 rfl (Nat.zero_le t) (Nat.le_refl 0) E W D p0
  rw [← e0, ← r1] at X
  -- what the class leaves
  have cs : ∀ {a p A K F : Nat → Int32} {b : Bool} (c j : Nat), c ≠ 197 → c ≠ 199 → c ≠ 200 → c ≠ 201 → c ≠ 202 → zh_i (zS h0 a p A K F b) c j = zh_i h c j ∧ zh_b (zS h0 a p A K F b) c j = zh_b h c j := fun c j q1 q2 q3 q4 q5 => ⟨by rw [zS_o j q1 q2 q3 q4 q5, i0 _ _ q2 q5], by rw [zS_bo j q2, b0 _ _ q2]⟩
  -- the reference behind the reading
  obtain ⟨mk, emk⟩ : ∃ mk : (Nat → Int32) → (Nat → Int32) → (Nat → Int32) → Bool → zi_Hp, ∀ w T F b, mk w T F b = zh_wi (zP h1 w T F b) 211 8 0 := ⟨fun w T F b => zh_wi (zP h1 w T F b) 211 8 0, fun _ _ _ _ => rfl⟩
  have mS : ∀ {w T F b}, Sh (mk w T F b) := fun {w T F b} => by rw [emk]; exact (zP_S S1).wi _ _ _
  have mw : ∀ {w T F b j}, 9 ≤ j → j ≤ 20 → zh_i (mk w T F b) 211 j = w j := fun {w T F b j} a1 a2 => by rw [emk, hp_i_wi, if_neg (by omega), zP_w a1 a2]
  have mo : ∀ {w T F b} (a j : Nat), a ≠ 211 → a ≠ 219 → a ≠ 220 → zh_i (mk w T F b) a j = zh_i h1 a j := fun {w T F b} a j a1 a2 a3 => by rw [emk, hp_i_wi, if_neg (by omega), zP_o j a1 a2 a3]
  have m38 : ∀ {w T F b}, zh_i (mk w T F b) 211 38 = zh_i h1 211 38 := fun {w T F b} => by
    rw [emk, hp_i_wi, if_neg (by decide)]
    exact Eq.trans rfl rfl
  have mT : ∀ {w T F b}, zh_i (mk w T F b) 219 = T := fun {w T F b} => funext (fun j => by rw [emk, hp_i_wi, if_neg (by omega), zP_T])
  have mF : ∀ {w T F b}, zh_i (mk w T F b) 220 = F := fun {w T F b} => funext (fun j => by rw [emk, hp_i_wi, if_neg (by omega), zP_F])
  have mb : ∀ {w T F b} (a j : Nat), a ≠ 211 → zh_b (mk w T F b) a j = zh_b h1 a j := fun {w T F b} a j a1 => by
    rw [emk, hp_b_wi]
    show (if a = 211 ∧ j = 15 then b else zh_b h1 a j) = _
    rw [if_neg (fun q => a1 q.1)]
  have m6 : ∀ {w T F b x}, zv 8 192 60 [.ref 211, .int x, u2] [] (zP h1 w T F b) = if 0 < w 13 then some (some (.int (-10 - w 14)), mk w T F b) else zv 8 192 80 [.ref 211, .int x, u2] [] (mk w T F b) := fun {w T F b x} => by
    rw [b192_60 (p_g0 S1) (p_g1 S1), ← emk, b192_66 (S_g0 mS) (S_g1 mS), mw (by decide) (by decide), b192_72 (S_g0 mS) (S_g1 mS), mw (by decide) (by decide)]
  rcases X with ⟨a', p', A', K', F', b', z, w2, T2, Fd2, bR2, x', ec, ⟨c, c1, c5, p3'⟩, p4', eo, Db⟩ | ⟨a', p', A', K', F', b', w2, T2, Fd2, bR2, k, ec, eo, D2, w13', p0'⟩
  · have c0 : ¬ p' 3 = 0 := by
      rw [p3']
      exact fun q => by have := (nI_eq' (b := 0) (by omega) (by decide)).mp q; omega
    refine ⟨-10 - nI z, zS h0 (up a' 1 0) p' A' K' F' b', mk w2 T2 Fd2 bR2, by rw [c_tx S S0 ec, if_neg c0, p4'], by rw [eo, m6, if_pos Db.1, Db.2], fun a j q => ⟨(cs a j (by omega) (by omega) (by omega) (by omega) (by omega)).1, fun _ => (cs a j (by omega) (by omega) (by omega) (by omega) (by omega)).2⟩, ⟨fun a j q => mo a j (by omega) (by omega) (by omega), m38⟩, Or.inl ⟨fun o j ho => cs _ _ (by omega) (by omega) (by omega) (by omega) (by omega), fun j => mo _ _ (by decide) (by decide) (by decide), fun k => (cs _ _ (by decide) (by decide) (by decide) (by decide) (by decide)).2, fun k => mb _ _ (by decide)⟩⟩
  · obtain ⟨d1, ⟨v, v2, v4, dv, dw⟩, ⟨km, hkm, dk, dk2, dki⟩, ⟨fm, hfm, df, dF, dF2, dF3⟩, d3⟩ := D2
    obtain ⟨h3, eh3⟩ : ∃ h3, h3 = zS h0 (up a' 1 0) p' A' K' F' b' := ⟨_, rfl⟩
    have S3 : Sh h3 := by rw [eh3]; exact zS_S S0
    obtain ⟨m1, em1, Sm1, Fm1, j1, g1, f1⟩ := c_fs2 (mS (w := w2) (T := T2) (F := Fd2) (b := bR2)) (v := v) (u := .double 0)
    have D3 : DT (zh_i h3 199) (zh_i h3 200) (zh_i h3 201) (zh_i h3 202) b' (zh_i m1 211) (zh_i m1 219) (zh_i m1 220) bR2 := by
      have g9 : zh_i m1 219 = T2 := funext (fun j => by rw [g1 _ _ (by decide), mT])
      have g20 : zh_i m1 220 = Fd2 := funext (fun j => by rw [g1 _ _ (by decide), mF])
      have q9 : zh_i h3 199 = p' := funext (fun j => by rw [eh3, zS_9])
      have qA : zh_i h3 200 = A' := funext (fun j => by rw [eh3, zS_A])
      have qK : zh_i h3 201 = K' := funext (fun j => by rw [eh3, zS_K])
      have qF : zh_i h3 202 = F' := funext (fun j => by rw [eh3, zS_F])
      rw [g9, g20, q9, qA, qK, qF]
      exact ⟨d1, ⟨v, v2, v4, dv, by rw [g1 _ _ (by decide), mw (by decide) (by decide)]; exact dw⟩, ⟨km, hkm, dk, by rw [g1 _ _ (by decide), mw (by decide) (by decide)]; exact dk2, dki⟩, ⟨fm, hfm, by rw [g1 _ _ (by decide), mw (by decide) (by decide)]; exact df, dF, dF2, dF3⟩, d3⟩
    obtain ⟨x4, y4, q4, r4, e4, G4, o4⟩ := j_pf S3 V1 Sm1 D3 (x := wx h3 1) (y := wy h3 1) (u2' := .double 0) (s0 := zh_i m1 212) (q0 := (zh_i m1 215, zh_i m1 216, zh_i m1 211 5, zh_b m1 217)) (fun v' ev' v2' v4' j hj => by
      rw [eh3, zS_9, dv] at ev'
      have := (nI_eq' (by omega) (by omega)).mp ev'
      subst this
      exact j1 j hj) (x1 := nI k)
    rw [zC_wx] at e4
    rw [zQ_id] at o4
    have o4' : zv 8 192 90 [.ref 211, .int (nI k), .int 0] [] m1 = some (some (.int (nI k)), zQ m1 q4 r4) := o4
    obtain ⟨h4, eh4⟩ : ∃ h4, h4 = zC h3 1 x4 y4 := ⟨_, rfl⟩
    have S4 : Sh h4 := by rw [eh4]; exact zC_S S3
    rw [← eh4] at e4
    have g3 : zv 8 107 40 [.ref 0] [] h3 = zv 8 107 51 [.ref 0] [] h4 := by
      have S := S3
      simp +decide only [b107_40, S.n, S.k, S.r, hp_n_wi, hp_k_wi, hp_r_wi, hp_n_wl, hp_k_wl, hp_r_wl, hp_n_wb, hp_k_wb, hp_r_wb, zq_rf, kx_0, kx_1, kx_2, kx_3, kx_4, kx_5, kx_6, kx_7, kx_8, kx_9, kx_10, kx_11, kx_12, kx_13, kx_14, kx_15, kx_16, kx_17, kx_33, kx_34, kx_50, kx_66, kx_67, kx_68, kx_69, kx_197, kx_198, kx_199, kx_200, kx_201, kx_202, kx_203, kx_204, kx_205, kx_206, kx_207, kx_208, kx_209, kx_210, rx_0_0, rx_0_1, rx_0_2, rx_0_3, rx_0_4, rx_0_5, rx_0_6, rx_0_7, rx_1_0, rx_1_1, rx_2_3, rx_2_4, rx_2_5, rx_2_6, rx_2_7, rx_2_8, rx_2_9, rx_10_0, rx_10_1, rx_10_2, rx_33_0, rx_33_1, rx_67_0, rx_68_0, rx_197_0, rx_199_5, rx_199_6, rx_199_7, rx_203_0, rx_203_1, rx_203_2, rx_206_0, rx_206_1, rx_206_2, rx_206_3, Option.bind_some, Option.toList_some, Option.toList_none, List.cons_append, List.nil_append, ↓reduceIte, e4]
    have i4 : zh_i h4 199 0 = nI k := by rw [eh4, zC_io _ (by omega), eh3, zS_9]; exact p0'
    have g4 : zv 8 107 51 [.ref 0] [] h4 = some (some (.int (nI k)), zh_wb (zh_wb h4 66 0 false) 66 1 false) := by
      have S := S4
      simp +decide only [b107_51, b107_69, S.n, S.k, S.r, hp_n_wi, hp_k_wi, hp_r_wi, hp_n_wl, hp_k_wl, hp_r_wl, hp_n_wb, hp_k_wb, hp_r_wb, zq_rf, kx_0, kx_1, kx_2, kx_3, kx_4, kx_5, kx_6, kx_7, kx_8, kx_9, kx_10, kx_11, kx_12, kx_13, kx_14, kx_15, kx_16, kx_17, kx_33, kx_34, kx_50, kx_66, kx_67, kx_68, kx_69, kx_197, kx_198, kx_199, kx_200, kx_201, kx_202, kx_203, kx_204, kx_205, kx_206, kx_207, kx_208, kx_209, kx_210, rx_0_0, rx_0_1, rx_0_2, rx_0_3, rx_0_4, rx_0_5, rx_0_6, rx_0_7, rx_1_0, rx_1_1, rx_2_3, rx_2_4, rx_2_5, rx_2_6, rx_2_7, rx_2_8, rx_2_9, rx_10_0, rx_10_1, rx_10_2, rx_33_0, rx_33_1, rx_67_0, rx_68_0, rx_197_0, rx_199_5, rx_199_6, rx_199_7, rx_203_0, rx_203_1, rx_203_2, rx_206_0, rx_206_1, rx_206_2, rx_206_3, Option.bind_some, Option.toList_some, Option.toList_none, List.cons_append, List.nil_append, ↓reduceIte]
      rw [show zh_i (zh_wb (zh_wb h4 66 0 false) 66 1 false) 199 0 = nI k from i4]
    refine ⟨nI k, zh_wb (zh_wb h4 66 0 false) 66 1 false, zQ m1 q4 r4, by rw [c_tx S S0 ec, if_pos d3, ← eh3, g3, g4], ?_, fun a j q => ⟨?_, fun hn => ?_⟩, ⟨fun a j q => ?_, ?_⟩, Or.inr ⟨?_, fun k' hk' => ⟨?_, ?_⟩⟩⟩
    · rw [eo, m6, if_neg (by rw [w13']; decide), b192_80 (S_g0 mS) (S_g1 mS), mw (by decide) (by decide), dw, em1]
      simp only [Option.bind_some, Option.toList_some, Option.toList_none, List.cons_append, List.nil_append]
      rw [b192_88, o4']
    · show zh_i h4 a j = zh_i h a j
      rw [eh4, zC_io _ (by omega), eh3]
      exact (cs a j (by omega) (by omega) (by omega) (by omega) (by omega)).1
    · rw [hp_b_wb, if_neg (fun z => hn z.1), hp_b_wb, if_neg (fun z => hn z.1), eh4, zC_bo _ (by omega), eh3]
      exact (cs a j (by omega) (by omega) (by omega) (by omega) (by omega)).2
    · rw [zQ_o _ (by omega) (by omega) (by omega) (by omega), g1 _ _ (by omega), mo _ _ (by omega) (by omega) (by omega)]
    · rw [zQ_211 (by decide), g1 _ _ (by decide), m38]
    · rw [zQ_row]
      refine G4.sw (SW.of (fun o j ho => ?_) (fun o j ho => ?_))
      · show zh_i h4 (1 + o) j = _
        rw [eh4, zC_i ho]
      · show zh_b (zh_wb (zh_wb h4 66 0 false) 66 1 false) (1 + o) j = _
        rw [hp_b_wb, if_neg (by omega), hp_b_wb, if_neg (by omega), eh4, zC_b ho]
    · rw [hp_b_wb]
      by_cases z : k' = 1
      · rw [if_pos ⟨rfl, z⟩]
      · rw [if_neg (fun q => z q.2), hp_b_wb, if_pos ⟨rfl, by omega⟩]
    · rw [zQ_bo _ (by decide)]
      exact f1 k' hk'
theorem a_text (R : R3 L h) {u1 u2 : Value} : Al L h (zv 8 107 0 [.ref 0] [] h) (fun m => zv 8 192 0 [.ref 211, u1, u2] [] m) := by
  obtain ⟨r, g, G, ⟨x1, x2, x3, x4, x5, x6⟩, l⟩ := id R
  obtain ⟨t, ht, et⟩ := r.2.2.1
  have ec : zh_i h 197 1 = nI t := x2.trans et
  obtain ⟨v, h1, e1, O1, F1, l1⟩ := c_text g ht ec
  have S1 := O1.1
  have Q1 : RO h1 := r.fc S1 F1.1
  have fi : ∀ a j, 211 ≤ a → zh_i h1 a j = zh_i h a j := fun a j q => (F1.1.1 a j q).1
  have Q : BT (zh_i h 198) h1 t := ⟨ht, (fi 211 8 (by decide)).trans et, fun j hj => by
    obtain ⟨y1, b, hb, y2⟩ := x3 t ht et j hj
    exact ⟨(fi 218 j (by decide)).trans y1.symm, b, hb, y1.trans y2⟩⟩
  obtain ⟨v', h2, m, c, o, C, ⟨o1, o2⟩, X⟩ := j_text g.1 ht ec S1 Q (u1 := u1) (u2 := u2)
  rw [e1] at c
  obtain rfl := rt_2 c
  have ev : v = v' := by injection c with c; injection c with c; injection c with c; injection c
  subst ev
  obtain ⟨v2, m2, e2, O2, F2, l2⟩ := o_text Q1 (u1 := u1) (u2 := u2)
  rw [o] at e2
  obtain rfl := rt_2 e2
  have fm : ∀ a j, a < 211 → zh_i m a j = zh_i h1 a j ∧ zh_b m a j = zh_b h1 a j := fun a j q => ⟨(F2.1.1 a j q).1, (F2.1.1 a j q).2.1⟩
  refine ⟨v, h1, m, e1, S1, F1.1.2.1.trans l, F1.1.2.2, o, O2, O1.fx O2.1 F2.1, ?_, ⟨?_, ?_, ?_, x4.same (fun k => ⟨?_, ?_, ?_, ?_⟩), x5.same (fun a j q1 q2 => ?_) (fun j => ?_), ?_⟩, F2.1.2.1.trans (F1.1.2.1.trans l)⟩
  · rcases X with ⟨y1, y2, y3, y4⟩ | ⟨y1, y2⟩
    · exact G.of1 (fun o j ho => ⟨((fm _ _ (by omega)).1).trans (y1 o j ho).1, ((fm _ _ (by omega)).2).trans (y1 o j ho).2⟩) (fun j hj => (y2 j).trans (fi _ _ (by decide)))
    · exact y1.sw (SW.of (fun o j ho => (fm _ _ (by omega)).1) (fun o j ho => (fm _ _ (by omega)).2))
  · intro k hk
    rcases X with ⟨y1, y2, y3, y4⟩ | ⟨y1, y2⟩
    · obtain ⟨z1, z2⟩ := x1 k hk
      have b14 : zh_b m 214 k = zh_b h 214 k := (y4 k).trans (F1.1.1 214 k (by decide)).2.1
      refine ⟨by rw [(fm _ _ (by decide)).2, y3, b14]; exact z1, fun hb => ?_⟩
      rw [b14] at hb
      exact ((z2 hb).sw (SW.of (fun o j ho => ((fm _ _ (by omega)).1).trans (C _ _ (by omega)).1) (fun o j ho => ((fm _ _ (by omega)).2).trans ((C _ _ (by omega)).2 (by omega))))).congr (fun j hj => (o1 _ _ (Or.inl rfl)).trans (fi _ _ (by decide)))
    · obtain ⟨z1, z2⟩ := y2 k hk
      exact ⟨by rw [(fm _ _ (by decide)).2, z1, z2], fun hb => by rw [z2] at hb; exact absurd hb (by decide)⟩
  · rw [(fm _ _ (by decide)).1, l1, l2]
  · intro t' ht' et' j hj
    rw [l2] at et'
    have := (nI_eq' (a := 0) (b := t') (by decide) (by omega)).mp et'
    omega
  · rw [(fm _ _ (by decide)).1]; exact (F1.2 k).1
  · rw [(fm _ _ (by decide)).1]; exact (F1.2 k).2
  · rw [(F2.2 k).1, fi _ _ (by decide)]
  · rw [(F2.2 k).2, fi _ _ (by decide)]
  · rw [(fm _ _ (by omega)).1, (C _ _ (by omega)).1]
  · rw [o1 _ _ (Or.inr rfl), fi _ _ (by decide)]
  · rw [(fm _ _ (by decide)).1, (C _ _ (by omega)).1, o2, fi _ _ (by decide)]; exact x6
end R34S
