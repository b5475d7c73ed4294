/-! BOTH SIDES: tape, sheets -/
/-- a stretch of numbers, all one -/
def zfl (h : zi_Hp) (a k n : Nat) (v : Int32) : zi_Hp := (zh_n h, zh_s h, zh_k h, fun b j => if b = a ∧ k ≤ j ∧ j < n then v else zh_i h b j, zh_b h, zh_l h, zh_r h, zh_L h, zh_x h)
/-- what lay writes -/
def wrV (la v : Int32) : Int32 := if la = 0 then v.toInt8.toInt32 else if la = 1 then v.toInt16.toInt32 else v
section R34H
variable {h h1 h2 : zi_Hp} {L : Nat}
theorem zfl_i {a k n : Nat} {v : Int32} (b j : Nat) : zh_i (zfl h a k n v) b j = if b = a ∧ k ≤ j ∧ j < n then v else zh_i h b j := Eq.trans rfl rfl
theorem zfl_e {a n : Nat} {v : Int32} : zfl h a n n v = h := by
  refine zh_ext rfl rfl (fun _ => rfl) (fun b j => ?_) (fun _ _ => rfl) (fun _ _ => rfl) (fun _ _ => rfl) rfl rfl
  rw [zfl_i, if_neg (fun w => by omega)]
theorem zfl_u {a k n : Nat} {v : Int32} (hk : k < n) : zfl (zh_wi h a k v) a (k + 1) n v = zfl h a k n v := by
  refine zh_ext rfl rfl (fun _ => rfl) (fun b j => ?_) (fun _ _ => rfl) (fun _ _ => rfl) (fun _ _ => rfl) rfl rfl
  rw [zfl_i, zfl_i, hp_i_wi]
  by_cases q : b = a ∧ k ≤ j ∧ j < n
  · rw [if_pos q]
    by_cases e : j = k
    · rw [if_neg (fun w => by omega), if_pos ⟨q.1, e⟩]
    · rw [if_pos ⟨q.1, by omega, q.2.2⟩]
  · rw [if_neg q, if_neg (fun w => q ⟨w.1, by omega, w.2.2⟩), if_neg (fun w => q ⟨w.1, by omega, by omega⟩)]
theorem IM.same (X : IM h) (e : ∀ a j, (34 ≤ a ∧ a ≤ 66) ∨ a = 213 ∨ a = 214 → zh_i h2 a j = zh_i h a j ∧ zh_b h2 a j = zh_b h a j) : IM h2 := fun k hk => by
  obtain ⟨y1, y2⟩ := X k hk
  have eb := (e 214 k (by omega)).2
  refine ⟨by rw [(e 66 k (by omega)).2, eb]; exact y1, fun hb => ?_⟩
  rw [eb] at hb
  exact ((y2 hb).sw (SW.of (fun o j ho => (e (34 + 16 * k + o) j (by omega)).1) (fun o j ho => (e (34 + 16 * k + o) j (by omega)).2))).congr (fun j _ => (e 213 (387 * k + j) (by omega)).1)
theorem TP.same (X : TP h) (e8 : zh_i h2 211 8 = zh_i h 211 8) (e1 : ∀ j, zh_i h2 198 j = zh_i h 198 j) (e2 : ∀ j, zh_i h2 218 j = zh_i h 218 j) : TP h2 := fun t ht et j hj => by
  rw [e8] at et
  rw [e1, e2]
  exact X t ht et j hj
theorem SHT.same (T : SHT h) (e : ∀ k, zh_i h2 204 k = zh_i h 204 k ∧ zh_i h2 205 k = zh_i h 205 k ∧ zh_i h2 230 k = zh_i h 230 k ∧ zh_i h2 231 k = zh_i h 231 k) : SHT h2 := fun k hk => by
  obtain ⟨e1, e2, e3, e4⟩ := e k
  rw [e1, e2, e3, e4]
  exact T k hk
theorem SC.same (T : SC h) (e1 : ∀ a j, 207 ≤ a → a ≤ 210 → zh_i h2 a j = zh_i h a j) (e2 : ∀ j, zh_i h2 232 j = zh_i h 232 j) : SC h2 := fun k hk i hi => by
  rw [e1 _ _ (by omega) (by omega), e2]
  exact T k hk i hi
theorem rt_2 {v v' : Value} {a b : zi_Hp} (e : (some (some v, a) : Option zi_Rt) = some (some v', b)) : a = b := by injection e with e; injection e
theorem Al.same (R : R3 L h) {o : Option zi_Rt} {F : zi_Hp → Option zi_Rt} (v : Int32) (e : o = some (some (.int v), h)) (e2 : F h = some (some (.int v), h)) : Al L h o F := ⟨v, h, h, e, R.1.1, R.2.2.2.2, rfl, e2, R⟩
theorem a_feed (R : R3 L h) (x : Int32) : Al L h (zv 2 105 0 [.ref 0, .int x] [] h) (fun m => zv 2 180 0 [.ref 211, .int x] [] m) := by
  obtain ⟨r, g, G, X, l⟩ := id R
  have S := r.1
  obtain ⟨t, ht, et⟩ := r.2.2.1
  have ec : zh_i h 197 1 = nI t := X.2.1.trans et
  rcases in_or x 0 127 (by decide) (by decide) with ⟨b, -, hb, rfl, hx⟩ | hx
  · have h0 : ¬ nI b < 0 := Int32.not_lt.mpr hx.1
    have h1' : ¬ 127 < nI b := Int32.not_lt.mpr hx.2
    have p0 : ¬ nI t < 0 := nI_pos (by omega)
    have pr : ∀ {m : zi_Hp}, Sh m → zv 2 180 0 [.ref 211, .int (nI b)] [] m = zv 2 180 14 [.ref 211, .int (nI b)] [] m := fun {m} S => by
      rw [b180_0, show (0 : Int64) = (nI 0).toInt64 from rfl, show (127 : Int64) = (nI 127).toInt64 from rfl, c_iy hx]
      simp only [Option.bind_some, Option.toList_some, Option.toList_none, List.cons_append, List.nil_append]
      rw [b180_9, if_neg (by decide)]
    by_cases h160 : t = 160
    · have p1 : ¬ nI t < 160 := by rw [h160]; decide
      refine Al.same R (-3) ?_ ?_
      · simp +decide only [b105_0, b105_4, b105_10, b105_12, b105_20, b105_23, b105_33, b105_35, b28_0, b28_7, b28_17, b28_19, b28_31, S.n, S.k, S.r, hp_n_wi, hp_k_wi, hp_r_wi, hp_n_wl, hp_k_wl, hp_r_wl, hp_n_wb, hp_k_wb, hp_r_wb, zq_rf, kx_0, kx_1, kx_2, kx_3, kx_4, kx_5, kx_6, kx_7, kx_8, kx_9, kx_10, kx_11, kx_12, kx_13, kx_14, kx_15, kx_16, kx_17, kx_33, kx_34, kx_50, kx_66, kx_67, kx_68, kx_69, kx_197, kx_198, kx_199, kx_200, kx_201, kx_202, kx_203, kx_204, kx_205, kx_206, kx_207, kx_208, kx_209, kx_210, rx_0_0, rx_0_1, rx_0_2, rx_0_3, rx_0_4, rx_0_5, rx_0_6, rx_0_7, rx_1_0, rx_1_1, rx_2_3, rx_2_4, rx_2_5, rx_2_6, rx_2_7, rx_2_8, rx_2_9, rx_10_0, rx_10_1, rx_10_2, rx_33_0, rx_33_1, rx_67_0, rx_68_0, rx_197_0, rx_199_5, rx_199_6, rx_199_7, rx_203_0, rx_203_1, rx_203_2, rx_206_0, rx_206_1, rx_206_2, rx_206_3, Option.bind_some, Option.toList_some, Option.toList_none, List.cons_append, List.nil_append, ↓reduceIte, if_neg h0, if_neg h1', ec, if_neg p0, if_neg p1]
      · show zv 2 180 0 _ _ _ = _
        rw [pr S, b180_14 (S_g0 S) (S_g1 S), et, if_pos (by rw [h160]; rfl), b180_24]
    · have p1 : nI t < 160 := nI_lt (b := 160) (by omega) (by decide)
      have hne : ¬ nI t = 160 := fun w => h160 ((nI_eq (a := t) (b := 160) (by omega) (by decide)).mp w)
      have nc : (nI t).toNatClampNeg = t := nI_clamp (by omega)
      have hz : ¬ (nI t < 0 ∨ 160 ≤ t) := by
        have q := zj_n (n := t) (N := 160) (by omega) (by decide)
        rw [nc] at q; exact q
      have i1 : zh_i (zh_wi h 198 t (nI b)) 197 1 = nI t := by rw [hp_i_wi, if_neg (by omega)]; exact ec
      have i2 : zh_i (zh_wi (zh_wi h 198 t (nI b)) 197 1 (nI (t + 1))) 197 1 = nI (t + 1) := by rw [hp_i_wi, if_pos ⟨rfl, rfl⟩]
      obtain ⟨m1, em1⟩ : ∃ m1, m1 = zh_wi (zh_wi h 198 t (nI b)) 197 1 (nI (t + 1)) := ⟨_, rfl⟩
      have O1 : GO m1 := by rw [em1]; exact (g.wi (wo_p (by decide))).wi (wo_p (by decide))
      have F1 : Fb h m1 := by rw [em1]; exact (Fb.wi (by decide)).trans (Fb.wi (by decide))
      have c1 : zv 2 105 0 [.ref 0, .int (nI b)] [] h = some (some (.int (nI (t + 1))), m1) := by
        rw [em1]
        simp +decide only [b105_0, b105_4, b105_10, b105_12, b105_20, b105_23, b105_33, b105_35, b28_0, b28_7, b28_17, b28_19, b28_31, S.n, S.k, S.r, hp_n_wi, hp_k_wi, hp_r_wi, hp_n_wl, hp_k_wl, hp_r_wl, hp_n_wb, hp_k_wb, hp_r_wb, zq_rf, kx_0, kx_1, kx_2, kx_3, kx_4, kx_5, kx_6, kx_7, kx_8, kx_9, kx_10, kx_11, kx_12, kx_13, kx_14, kx_15, kx_16, kx_17, kx_33, kx_34, kx_50, kx_66, kx_67, kx_68, kx_69, kx_197, kx_198, kx_199, kx_200, kx_201, kx_202, kx_203, kx_204, kx_205, kx_206, kx_207, kx_208, kx_209, kx_210, rx_0_0, rx_0_1, rx_0_2, rx_0_3, rx_0_4, rx_0_5, rx_0_6, rx_0_7, rx_1_0, rx_1_1, rx_2_3, rx_2_4, rx_2_5, rx_2_6, rx_2_7, rx_2_8, rx_2_9, rx_10_0, rx_10_1, rx_10_2, rx_33_0, rx_33_1, rx_67_0, rx_68_0, rx_197_0, rx_199_5, rx_199_6, rx_199_7, rx_203_0, rx_203_1, rx_203_2, rx_206_0, rx_206_1, rx_206_2, rx_206_3, Option.bind_some, Option.toList_some, Option.toList_none, List.cons_append, List.nil_append, ↓reduceIte, if_neg h0, if_neg h1', ec, if_neg p0, if_pos p1, nc, hz, i1, nI_s, i2]
      have S1 := O1.1
      have Q1 : RO m1 := r.fc S1 F1
      have et1 : zh_i m1 211 8 = nI t := (F1.1 211 8 (by decide)).1.trans et
      obtain ⟨m2, em2⟩ : ∃ m2, m2 = zh_wi (zh_wi m1 218 t (nI b)) 211 8 (nI (t + 1)) := ⟨_, rfl⟩
      have e8 : zh_i m2 211 8 = nI (t + 1) := by rw [em2, hp_i_wi, if_pos ⟨rfl, rfl⟩]
      have c2 : zv 2 180 0 [.ref 211, .int (nI b)] [] m1 = some (some (.int (nI (t + 1))), m2) := by
        have S := S1
        have r7 : zh_r m1 211 7 = .ref 218 := by rw [S.r, rx_211_7]
        rw [pr S, b180_14 (S_g0 S) (S_g1 S), et1, if_neg hne, b180_27 (S_g0 S) (S_g1 S) (by rw [r7, zq_rf]) (by rw [r7, zq_rf, S.n]; decide) (by rw [r7, zq_rf, S.k, kx_218, et1]; exact zj_n (by omega) (by decide)) (by rw [r7, zq_rf, S.k, kx_218]), r7, zq_rf, et1, nc, b180_39 (S_g0 (S.wi 218 t (nI b))) (S_g1 (S.wi 218 t (nI b))) (S_g0 (S.wi 218 t (nI b))) (S_g1 (S.wi 218 t (nI b))), hp_i_wi, if_neg (by omega), et1, nI_s, b180_48 (S_g0 ((S.wi 218 t (nI b)).wi 211 8 _)) (S_g1 ((S.wi 218 t (nI b)).wi 211 8 _)), ← em2, e8]
      obtain ⟨v9, h9, e9, O9, F9, -⟩ := o_feed Q1 (nI b)
      rw [c2] at e9
      obtain rfl := rt_2 e9
      have k1 : ∀ a j, (a ≠ 198 ∨ j ≠ t) → (a ≠ 197 ∨ j ≠ 1) → (a ≠ 218 ∨ j ≠ t) → (a ≠ 211 ∨ j ≠ 8) → zh_i m2 a j = zh_i h a j := fun a j q1 q2 q3 q4 => by
        rw [em2, hp_i_wi, if_neg (by omega), hp_i_wi, if_neg (by omega), em1, hp_i_wi, if_neg (by omega), hp_i_wi, if_neg (by omega)]
      have b1 : ∀ a j, zh_b m2 a j = zh_b h a j := fun a j => by rw [em2, em1]; rfl
      refine ⟨_, m1, m2, c1, S1, F1.2.1.trans l, F1.2.2, c2, O9, O1.fx O9.1 F9.1, G.of1 (fun o j ho => ⟨k1 _ _ (by omega) (by omega) (by omega) (by omega), b1 _ _⟩) (fun j _ => k1 _ _ (by omega) (by omega) (by omega) (by omega)), ⟨X.1.same (fun a j q => ⟨k1 _ _ (by omega) (by omega) (by omega) (by omega), b1 _ _⟩), ?_, fun t' ht' et' j hj => ?_, X.2.2.2.1.same (fun k => ⟨k1 _ _ (by omega) (by omega) (by omega) (by omega), k1 _ _ (by omega) (by omega) (by omega) (by omega), k1 _ _ (by omega) (by omega) (by omega) (by omega), k1 _ _ (by omega) (by omega) (by omega) (by omega)⟩), X.2.2.2.2.1.same (fun a j q1 q2 => k1 _ _ (by omega) (by omega) (by omega) (by omega)) (fun j => k1 _ _ (by omega) (by omega) (by omega) (by omega)), ?_⟩, ?_⟩
      · rw [e8, em2, hp_i_wi, if_neg (by omega), hp_i_wi, if_neg (by omega), em1, hp_i_wi, if_pos ⟨rfl, rfl⟩]
      · rw [e8] at et'
        have : t' = t + 1 := ((nI_eq' (by omega) (by omega)).mp et').symm
        subst this
        by_cases ej : j = t
        · subst ej
          have a1 : zh_i m2 218 j = nI b := by rw [em2, hp_i_wi, if_neg (by omega), hp_i_wi, if_pos ⟨rfl, rfl⟩]
          have a2 : zh_i m2 198 j = nI b := by rw [em2, hp_i_wi, if_neg (by omega), hp_i_wi, if_neg (by omega), em1, hp_i_wi, if_neg (by omega), hp_i_wi, if_pos ⟨rfl, rfl⟩]
          exact ⟨a2.trans a1.symm, b, hb, a1⟩
        · rw [k1 198 j (by omega) (by omega) (by omega) (by omega), k1 218 j (by omega) (by omega) (by omega) (by omega)]
          exact X.2.2.1 t ht et j (by omega)
      · rw [k1 0 8 (by omega) (by omega) (by omega) (by omega), k1 211 38 (by omega) (by omega) (by omega) (by omega)]; exact X.2.2.2.2.2
      · rw [F9.1.2.1, F1.2.1]; exact l
  · refine Al.same R (-1) ?_ ?_
    · by_cases h0 : x < 0
      · simp +decide only [b105_0, b105_4, b105_10, b105_12, b105_20, b105_23, b105_33, b105_35, S.n, S.k, S.r, hp_n_wi, hp_k_wi, hp_r_wi, hp_n_wl, hp_k_wl, hp_r_wl, hp_n_wb, hp_k_wb, hp_r_wb, zq_rf, kx_0, kx_1, kx_2, kx_3, kx_4, kx_5, kx_6, kx_7, kx_8, kx_9, kx_10, kx_11, kx_12, kx_13, kx_14, kx_15, kx_16, kx_17, kx_33, kx_34, kx_50, kx_66, kx_67, kx_68, kx_69, kx_197, kx_198, kx_199, kx_200, kx_201, kx_202, kx_203, kx_204, kx_205, kx_206, kx_207, kx_208, kx_209, kx_210, rx_0_0, rx_0_1, rx_0_2, rx_0_3, rx_0_4, rx_0_5, rx_0_6, rx_0_7, rx_1_0, rx_1_1, rx_2_3, rx_2_4, rx_2_5, rx_2_6, rx_2_7, rx_2_8, rx_2_9, rx_10_0, rx_10_1, rx_10_2, rx_33_0, rx_33_1, rx_67_0, rx_68_0, rx_197_0, rx_199_5, rx_199_6, rx_199_7, rx_203_0, rx_203_1, rx_203_2, rx_206_0, rx_206_1, rx_206_2, rx_206_3, Option.bind_some, Option.toList_some, Option.toList_none, List.cons_append, List.nil_append, ↓reduceIte, if_pos h0]
      · have h1' : 127 < x := Int32.not_le.mp (fun q => hx ⟨Int32.not_lt.mp h0, q⟩)
        simp +decide only [b105_0, b105_4, b105_10, b105_12, b105_20, b105_23, b105_33, b105_35, S.n, S.k, S.r, hp_n_wi, hp_k_wi, hp_r_wi, hp_n_wl, hp_k_wl, hp_r_wl, hp_n_wb, hp_k_wb, hp_r_wb, zq_rf, kx_0, kx_1, kx_2, kx_3, kx_4, kx_5, kx_6, kx_7, kx_8, kx_9, kx_10, kx_11, kx_12, kx_13, kx_14, kx_15, kx_16, kx_17, kx_33, kx_34, kx_50, kx_66, kx_67, kx_68, kx_69, kx_197, kx_198, kx_199, kx_200, kx_201, kx_202, kx_203, kx_204, kx_205, kx_206, kx_207, kx_208, kx_209, kx_210, rx_0_0, rx_0_1, rx_0_2, rx_0_3, rx_0_4, rx_0_5, rx_0_6, rx_0_7, rx_1_0, rx_1_1, rx_2_3, rx_2_4, rx_2_5, rx_2_6, rx_2_7, rx_2_8, rx_2_9, rx_10_0, rx_10_1, rx_10_2, rx_33_0, rx_33_1, rx_67_0, rx_68_0, rx_197_0, rx_199_5, rx_199_6, rx_199_7, rx_203_0, rx_203_1, rx_203_2, rx_206_0, rx_206_1, rx_206_2, rx_206_3, Option.bind_some, Option.toList_some, Option.toList_none, List.cons_append, List.nil_append, ↓reduceIte, if_neg h0, if_pos h1']
    · show zv 2 180 0 _ _ _ = _
      rw [b180_0, show (0 : Int64) = (nI 0).toInt64 from rfl, show (127 : Int64) = (nI 127).toInt64 from rfl, c_iz hx]
      simp only [Option.bind_some, Option.toList_some, Option.toList_none, List.cons_append, List.nil_append]
      rw [b180_9, if_pos rfl, b180_12]
theorem a_end (R : R3 L h) (x : Int32) {u u' : Value} : Al L h (zv 1 106 0 [.ref 0, .int x, u] [] h) (fun m => zv 2 181 0 [.ref 211, .int x, u'] [] m) := by
  obtain ⟨r, g, G, X, l⟩ := id R
  have S := r.1
  obtain ⟨t, ht, et⟩ := r.2.2.1
  have ec : zh_i h 197 1 = nI t := X.2.1.trans et
  rcases in_or x 0 t (by omega) (by omega) with ⟨n, -, hn, rfl, hx⟩ | hx
  · have h0 : ¬ nI n < 0 := Int32.not_lt.mpr hx.1
    have h1' : ¬ nI t < nI n := Int32.not_lt.mpr hx.2
    obtain ⟨m1, em1⟩ : ∃ m1, m1 = zh_wi h 197 1 (nI n) := ⟨_, rfl⟩
    have O1 : GO m1 := by rw [em1]; exact g.wi (wo_p (by decide))
    have F1 : Fb h m1 := by rw [em1]; exact Fb.wi (by decide)
    have c1 : zv 1 106 0 [.ref 0, .int (nI n), u] [] h = some (some (.int (nI t)), m1) := by
      rw [em1]
      simp +decide only [b106_0, b106_4, b106_15, b106_17, S.n, S.k, S.r, hp_n_wi, hp_k_wi, hp_r_wi, hp_n_wl, hp_k_wl, hp_r_wl, hp_n_wb, hp_k_wb, hp_r_wb, zq_rf, kx_0, kx_1, kx_2, kx_3, kx_4, kx_5, kx_6, kx_7, kx_8, kx_9, kx_10, kx_11, kx_12, kx_13, kx_14, kx_15, kx_16, kx_17, kx_33, kx_34, kx_50, kx_66, kx_67, kx_68, kx_69, kx_197, kx_198, kx_199, kx_200, kx_201, kx_202, kx_203, kx_204, kx_205, kx_206, kx_207, kx_208, kx_209, kx_210, rx_0_0, rx_0_1, rx_0_2, rx_0_3, rx_0_4, rx_0_5, rx_0_6, rx_0_7, rx_1_0, rx_1_1, rx_2_3, rx_2_4, rx_2_5, rx_2_6, rx_2_7, rx_2_8, rx_2_9, rx_10_0, rx_10_1, rx_10_2, rx_33_0, rx_33_1, rx_67_0, rx_68_0, rx_197_0, rx_199_5, rx_199_6, rx_199_7, rx_203_0, rx_203_1, rx_203_2, rx_206_0, rx_206_1, rx_206_2, rx_206_3, Option.bind_some, Option.toList_some, Option.toList_none, List.cons_append, List.nil_append, ↓reduceIte, ec, if_neg h0, if_neg h1']
    have S1 := O1.1
    have Q1 : RO m1 := r.fc S1 F1
    have et1 : zh_i m1 211 8 = nI t := (F1.1 211 8 (by decide)).1.trans et
    obtain ⟨m2, em2⟩ : ∃ m2, m2 = zh_wi m1 211 8 (nI n) := ⟨_, rfl⟩
    have e8 : zh_i m2 211 8 = nI n := by rw [em2, hp_i_wi, if_pos ⟨rfl, rfl⟩]
    have c2 : zv 2 181 0 [.ref 211, .int (nI n), u'] [] m1 = some (some (.int (nI t)), m2) := by
      rw [b181_0 (S_g0 S1) (S_g1 S1), et1, show (0 : Int64) = (nI 0).toInt64 from rfl, c_iy hx]
      simp only [Option.bind_some, Option.toList_some, Option.toList_none, List.cons_append, List.nil_append]
      rw [b181_11, if_neg (by decide), b181_16 (S_g0 S1) (S_g1 S1), et1, em2]
    obtain ⟨v9, h9, e9, O9, F9, -⟩ := o_end Q1 (nI n) (u := u')
    rw [c2] at e9
    obtain rfl := rt_2 e9
    have k1 : ∀ a j, (a ≠ 197 ∨ j ≠ 1) → (a ≠ 211 ∨ j ≠ 8) → zh_i m2 a j = zh_i h a j := fun a j q1 q2 => by
      rw [em2, hp_i_wi, if_neg (by omega), em1, hp_i_wi, if_neg (by omega)]
    have b1 : ∀ a j, zh_b m2 a j = zh_b h a j := fun a j => by rw [em2, em1]; rfl
    refine ⟨_, m1, m2, c1, S1, F1.2.1.trans l, F1.2.2, c2, O9, O1.fx O9.1 F9.1, G.of1 (fun o j ho => ⟨k1 _ _ (by omega) (by omega), b1 _ _⟩) (fun j _ => k1 _ _ (by omega) (by omega)), ⟨X.1.same (fun a j q => ⟨k1 _ _ (by omega) (by omega), b1 _ _⟩), ?_, fun t' ht' et' j hj => ?_, X.2.2.2.1.same (fun k => ⟨k1 _ _ (by omega) (by omega), k1 _ _ (by omega) (by omega), k1 _ _ (by omega) (by omega), k1 _ _ (by omega) (by omega)⟩), X.2.2.2.2.1.same (fun a j q1 q2 => k1 _ _ (by omega) (by omega)) (fun j => k1 _ _ (by omega) (by omega)), ?_⟩, ?_⟩
    · rw [e8, em2, hp_i_wi, if_neg (by omega), em1, hp_i_wi, if_pos ⟨rfl, rfl⟩]
    · rw [e8] at et'
      have : t' = n := ((nI_eq' (by omega) (by omega)).mp et').symm
      rw [k1 198 j (by omega) (by omega), k1 218 j (by omega) (by omega)]
      exact X.2.2.1 t ht et j (by omega)
    · rw [k1 0 8 (by omega) (by omega), k1 211 38 (by omega) (by omega)]; exact X.2.2.2.2.2
    · rw [F9.1.2.1, F1.2.1]; exact l
  · refine Al.same R (-1) ?_ ?_
    · by_cases h0 : x < 0
      · simp +decide only [b106_0, b106_4, b106_15, b106_17, S.n, S.k, S.r, hp_n_wi, hp_k_wi, hp_r_wi, hp_n_wl, hp_k_wl, hp_r_wl, hp_n_wb, hp_k_wb, hp_r_wb, zq_rf, kx_0, kx_1, kx_2, kx_3, kx_4, kx_5, kx_6, kx_7, kx_8, kx_9, kx_10, kx_11, kx_12, kx_13, kx_14, kx_15, kx_16, kx_17, kx_33, kx_34, kx_50, kx_66, kx_67, kx_68, kx_69, kx_197, kx_198, kx_199, kx_200, kx_201, kx_202, kx_203, kx_204, kx_205, kx_206, kx_207, kx_208, kx_209, kx_210, rx_0_0, rx_0_1, rx_0_2, rx_0_3, rx_0_4, rx_0_5, rx_0_6, rx_0_7, rx_1_0, rx_1_1, rx_2_3, rx_2_4, rx_2_5, rx_2_6, rx_2_7, rx_2_8, rx_2_9, rx_10_0, rx_10_1, rx_10_2, rx_33_0, rx_33_1, rx_67_0, rx_68_0, rx_197_0, rx_199_5, rx_199_6, rx_199_7, rx_203_0, rx_203_1, rx_203_2, rx_206_0, rx_206_1, rx_206_2, rx_206_3, Option.bind_some, Option.toList_some, Option.toList_none, List.cons_append, List.nil_append, ↓reduceIte, if_pos h0]
      · have h1' : nI t < x := Int32.not_le.mp (fun q => hx ⟨Int32.not_lt.mp h0, q⟩)
        simp +decide only [b106_0, b106_4, b106_15, b106_17, S.n, S.k, S.r, hp_n_wi, hp_k_wi, hp_r_wi, hp_n_wl, hp_k_wl, hp_r_wl, hp_n_wb, hp_k_wb, hp_r_wb, zq_rf, kx_0, kx_1, kx_2, kx_3, kx_4, kx_5, kx_6, kx_7, kx_8, kx_9, kx_10, kx_11, kx_12, kx_13, kx_14, kx_15, kx_16, kx_17, kx_33, kx_34, kx_50, kx_66, kx_67, kx_68, kx_69, kx_197, kx_198, kx_199, kx_200, kx_201, kx_202, kx_203, kx_204, kx_205, kx_206, kx_207, kx_208, kx_209, kx_210, rx_0_0, rx_0_1, rx_0_2, rx_0_3, rx_0_4, rx_0_5, rx_0_6, rx_0_7, rx_1_0, rx_1_1, rx_2_3, rx_2_4, rx_2_5, rx_2_6, rx_2_7, rx_2_8, rx_2_9, rx_10_0, rx_10_1, rx_10_2, rx_33_0, rx_33_1, rx_67_0, rx_68_0, rx_197_0, rx_199_5, rx_199_6, rx_199_7, rx_203_0, rx_203_1, rx_203_2, rx_206_0, rx_206_1, rx_206_2, rx_206_3, Option.bind_some, Option.toList_some, Option.toList_none, List.cons_append, List.nil_append, ↓reduceIte, ec, if_neg h0, if_pos h1']
    · show zv 2 181 0 _ _ _ = _
      rw [b181_0 (S_g0 S) (S_g1 S), et, show (0 : Int64) = (nI 0).toInt64 from rfl, c_iz hx]
      simp only [Option.bind_some, Option.toList_some, Option.toList_none, List.cons_append, List.nil_append]
      rw [b181_11, if_pos rfl, b181_14]
theorem q_shL2 {k : Nat} (hk : k < 4) {x2 x3 : Int32} : ∀ d i, i + d = 40 → ∀ {h : zi_Hp}, Sh h → zv 3 235 40 [.ref 211, .int (nI k), .int x2, .int x3, .int (nI i)] [] h = some (some (.int 1), zfl h 232 (40 * k + i) (40 * k + 40) 0)
  | 0, i, hi, h, S => by
    have e : i = 40 := by omega
    subst e
    rw [b235_40, if_neg (by decide), b235_66, zfl_e]
  | d + 1, i, hi, h, S => by
    have r37 : zh_r h 211 37 = .ref 232 := by rw [S.r, rx_211_37]
    have e3 : nI i < 40 := nI_lt (b := 40) (by omega) (by decide)
    rw [b235_40, if_pos e3, b235_47 (S_g0 S) (S_g1 S) (by rw [r37, zq_rf]) (by rw [r37, zq_rf, S.n]; decide) (by rw [r37, zq_rf, S.k, kx_232, nI_iy]; exact zj_n (by omega) (by decide)) (by rw [r37, zq_rf, S.k, kx_232]), r37, zq_rf, nI_s, nI_iy, nI_clamp (by omega), q_shL2 hk d (i + 1) (by omega) (S.wi _ _ _), show 40 * k + (i + 1) = (40 * k + i) + 1 by omega, zfl_u (by omega)]
theorem k_shc (S : Sh h) {c : Nat} (hc : c < 4) {l n : Int32} : zv 2 23 0 [.ref 203, .int (nI c), .int l, .int n] [] h = some (none, zh_fi (zh_wi (zh_wi h 205 c l) 204 c n) (207 + c) 40 0) := by
  have hv : ¬ nI c < 0 ∧ nI c < 4 := ⟨nI_pos (by omega), nI_lt (b := 4) hc (by decide)⟩
  have S1 : Sh (zh_wi (zh_wi h 205 c l) 204 c n) := (S.wi _ _ _).wi _ _ _
  have : c = 0 ∨ c = 1 ∨ c = 2 ∨ c = 3 := by omega
  rcases this with rfl | rfl | rfl | rfl
  · have e2 := c_fill (h := zh_wi (zh_wi h 205 0 l) 204 0 n) (a := 207) (N := 40) (v := 0) (by rw [S1.n]; decide) (by rw [S1.k, kx_207]) (by decide)
    simp +decide only [b23_0, b23_4, b23_7, b23_8, b23_32, S.n, S.k, S.r, hp_n_wi, hp_k_wi, hp_r_wi, hp_n_wl, hp_k_wl, hp_r_wl, hp_n_wb, hp_k_wb, hp_r_wb, zq_rf, kx_0, kx_1, kx_2, kx_3, kx_4, kx_5, kx_6, kx_7, kx_8, kx_9, kx_10, kx_11, kx_12, kx_13, kx_14, kx_15, kx_16, kx_17, kx_33, kx_34, kx_50, kx_66, kx_67, kx_68, kx_69, kx_197, kx_198, kx_199, kx_200, kx_201, kx_202, kx_203, kx_204, kx_205, kx_206, kx_207, kx_208, kx_209, kx_210, rx_0_0, rx_0_1, rx_0_2, rx_0_3, rx_0_4, rx_0_5, rx_0_6, rx_0_7, rx_1_0, rx_1_1, rx_2_3, rx_2_4, rx_2_5, rx_2_6, rx_2_7, rx_2_8, rx_2_9, rx_10_0, rx_10_1, rx_10_2, rx_33_0, rx_33_1, rx_67_0, rx_68_0, rx_197_0, rx_199_5, rx_199_6, rx_199_7, rx_203_0, rx_203_1, rx_203_2, rx_206_0, rx_206_1, rx_206_2, rx_206_3, Option.bind_some, Option.toList_some, Option.toList_none, List.cons_append, List.nil_append, ↓reduceIte, p_138, decide_eq_true hv, zi_bI_t, tc_0, e2]
  · have e2 := c_fill (h := zh_wi (zh_wi h 205 1 l) 204 1 n) (a := 208) (N := 40) (v := 0) (by rw [S1.n]; decide) (by rw [S1.k, kx_208]) (by decide)
    simp +decide only [b23_0, b23_4, b23_7, b23_8, b23_32, S.n, S.k, S.r, hp_n_wi, hp_k_wi, hp_r_wi, hp_n_wl, hp_k_wl, hp_r_wl, hp_n_wb, hp_k_wb, hp_r_wb, zq_rf, kx_0, kx_1, kx_2, kx_3, kx_4, kx_5, kx_6, kx_7, kx_8, kx_9, kx_10, kx_11, kx_12, kx_13, kx_14, kx_15, kx_16, kx_17, kx_33, kx_34, kx_50, kx_66, kx_67, kx_68, kx_69, kx_197, kx_198, kx_199, kx_200, kx_201, kx_202, kx_203, kx_204, kx_205, kx_206, kx_207, kx_208, kx_209, kx_210, rx_0_0, rx_0_1, rx_0_2, rx_0_3, rx_0_4, rx_0_5, rx_0_6, rx_0_7, rx_1_0, rx_1_1, rx_2_3, rx_2_4, rx_2_5, rx_2_6, rx_2_7, rx_2_8, rx_2_9, rx_10_0, rx_10_1, rx_10_2, rx_33_0, rx_33_1, rx_67_0, rx_68_0, rx_197_0, rx_199_5, rx_199_6, rx_199_7, rx_203_0, rx_203_1, rx_203_2, rx_206_0, rx_206_1, rx_206_2, rx_206_3, Option.bind_some, Option.toList_some, Option.toList_none, List.cons_append, List.nil_append, ↓reduceIte, p_138, decide_eq_true hv, zi_bI_t, tc_1, e2]
  · have e2 := c_fill (h := zh_wi (zh_wi h 205 2 l) 204 2 n) (a := 209) (N := 40) (v := 0) (by rw [S1.n]; decide) (by rw [S1.k, kx_209]) (by decide)
    simp +decide only [b23_0, b23_4, b23_7, b23_8, b23_32, S.n, S.k, S.r, hp_n_wi, hp_k_wi, hp_r_wi, hp_n_wl, hp_k_wl, hp_r_wl, hp_n_wb, hp_k_wb, hp_r_wb, zq_rf, kx_0, kx_1, kx_2, kx_3, kx_4, kx_5, kx_6, kx_7, kx_8, kx_9, kx_10, kx_11, kx_12, kx_13, kx_14, kx_15, kx_16, kx_17, kx_33, kx_34, kx_50, kx_66, kx_67, kx_68, kx_69, kx_197, kx_198, kx_199, kx_200, kx_201, kx_202, kx_203, kx_204, kx_205, kx_206, kx_207, kx_208, kx_209, kx_210, rx_0_0, rx_0_1, rx_0_2, rx_0_3, rx_0_4, rx_0_5, rx_0_6, rx_0_7, rx_1_0, rx_1_1, rx_2_3, rx_2_4, rx_2_5, rx_2_6, rx_2_7, rx_2_8, rx_2_9, rx_10_0, rx_10_1, rx_10_2, rx_33_0, rx_33_1, rx_67_0, rx_68_0, rx_197_0, rx_199_5, rx_199_6, rx_199_7, rx_203_0, rx_203_1, rx_203_2, rx_206_0, rx_206_1, rx_206_2, rx_206_3, Option.bind_some, Option.toList_some, Option.toList_none, List.cons_append, List.nil_append, ↓reduceIte, p_138, decide_eq_true hv, zi_bI_t, tc_2, e2]
  · have e2 := c_fill (h := zh_wi (zh_wi h 205 3 l) 204 3 n) (a := 210) (N := 40) (v := 0) (by rw [S1.n]; decide) (by rw [S1.k, kx_210]) (by decide)
    simp +decide only [b23_0, b23_4, b23_7, b23_8, b23_32, S.n, S.k, S.r, hp_n_wi, hp_k_wi, hp_r_wi, hp_n_wl, hp_k_wl, hp_r_wl, hp_n_wb, hp_k_wb, hp_r_wb, zq_rf, kx_0, kx_1, kx_2, kx_3, kx_4, kx_5, kx_6, kx_7, kx_8, kx_9, kx_10, kx_11, kx_12, kx_13, kx_14, kx_15, kx_16, kx_17, kx_33, kx_34, kx_50, kx_66, kx_67, kx_68, kx_69, kx_197, kx_198, kx_199, kx_200, kx_201, kx_202, kx_203, kx_204, kx_205, kx_206, kx_207, kx_208, kx_209, kx_210, rx_0_0, rx_0_1, rx_0_2, rx_0_3, rx_0_4, rx_0_5, rx_0_6, rx_0_7, rx_1_0, rx_1_1, rx_2_3, rx_2_4, rx_2_5, rx_2_6, rx_2_7, rx_2_8, rx_2_9, rx_10_0, rx_10_1, rx_10_2, rx_33_0, rx_33_1, rx_67_0, rx_68_0, rx_197_0, rx_199_5, rx_199_6, rx_199_7, rx_203_0, rx_203_1, rx_203_2, rx_206_0, rx_206_1, rx_206_2, rx_206_3, Option.bind_some, Option.toList_some, Option.toList_none, List.cons_append, List.nil_append, ↓reduceIte, p_138, decide_eq_true hv, zi_bI_t, tc_3, e2]
theorem a_sheet (R : R3 L h) (x y w : Int32) {u : Value} : Al L h (zv 3 127 0 [.ref 0, .int x, .int y, .int w] [] h) (fun m => zv 3 235 0 [.ref 211, .int x, .int y, .int w, u] [] m) := by
  obtain ⟨r, g, G, X, l⟩ := id R
  have S := r.1
  rcases in_or x 0 3 (by decide) (by decide) with ⟨c, -, hc, rfl, hx⟩ | hx
  · have hv : ¬ nI c < 0 ∧ nI c < 4 := (rg (b := 3) (by decide)).mpr hx
    rcases in_or y 0 2 (by decide) (by decide) with ⟨la, -, hla, rfl, hy⟩ | hy
    · have hl : ¬ nI la < 0 ∧ nI la < 3 := (rg (b := 2) (by decide)).mpr hy
      have pr : ∀ {m : zi_Hp}, zv 3 235 0 [.ref 211, .int (nI c), .int (nI la), .int w, u] [] m = zv 3 235 8 [.ref 211, .int (nI c), .int (nI la), .int w, u] [] m := fun {m} => by
        rw [b235_0, q_shy hx hy]
        simp only [Option.bind_some, Option.toList_some, Option.toList_none, List.cons_append, List.nil_append]
        rw [b235_5, if_neg (by decide)]
      by_cases h40 : 40 < w
      · refine Al.same R (-1) ?_ ?_
        · simp +decide only [b127_0, b127_4, b127_7, b127_11, b127_14, b127_20, S.n, S.k, S.r, hp_n_wi, hp_k_wi, hp_r_wi, hp_n_wl, hp_k_wl, hp_r_wl, hp_n_wb, hp_k_wb, hp_r_wb, zq_rf, kx_0, kx_1, kx_2, kx_3, kx_4, kx_5, kx_6, kx_7, kx_8, kx_9, kx_10, kx_11, kx_12, kx_13, kx_14, kx_15, kx_16, kx_17, kx_33, kx_34, kx_50, kx_66, kx_67, kx_68, kx_69, kx_197, kx_198, kx_199, kx_200, kx_201, kx_202, kx_203, kx_204, kx_205, kx_206, kx_207, kx_208, kx_209, kx_210, rx_0_0, rx_0_1, rx_0_2, rx_0_3, rx_0_4, rx_0_5, rx_0_6, rx_0_7, rx_1_0, rx_1_1, rx_2_3, rx_2_4, rx_2_5, rx_2_6, rx_2_7, rx_2_8, rx_2_9, rx_10_0, rx_10_1, rx_10_2, rx_33_0, rx_33_1, rx_67_0, rx_68_0, rx_197_0, rx_199_5, rx_199_6, rx_199_7, rx_203_0, rx_203_1, rx_203_2, rx_206_0, rx_206_1, rx_206_2, rx_206_3, Option.bind_some, Option.toList_some, Option.toList_none, List.cons_append, List.nil_append, ↓reduceIte, p_138, p_139, decide_eq_true hv, decide_eq_true hl, zi_bI_t, if_pos h40]
        · show zv 3 235 0 _ _ _ = _
          rw [pr, b235_8, if_pos h40, b235_14]
      · by_cases h0 : w < 0
        · refine Al.same R (-14) ?_ ?_
          · simp +decide only [b127_0, b127_4, b127_7, b127_11, b127_14, b127_22, b127_26, S.n, S.k, S.r, hp_n_wi, hp_k_wi, hp_r_wi, hp_n_wl, hp_k_wl, hp_r_wl, hp_n_wb, hp_k_wb, hp_r_wb, zq_rf, kx_0, kx_1, kx_2, kx_3, kx_4, kx_5, kx_6, kx_7, kx_8, kx_9, kx_10, kx_11, kx_12, kx_13, kx_14, kx_15, kx_16, kx_17, kx_33, kx_34, kx_50, kx_66, kx_67, kx_68, kx_69, kx_197, kx_198, kx_199, kx_200, kx_201, kx_202, kx_203, kx_204, kx_205, kx_206, kx_207, kx_208, kx_209, kx_210, rx_0_0, rx_0_1, rx_0_2, rx_0_3, rx_0_4, rx_0_5, rx_0_6, rx_0_7, rx_1_0, rx_1_1, rx_2_3, rx_2_4, rx_2_5, rx_2_6, rx_2_7, rx_2_8, rx_2_9, rx_10_0, rx_10_1, rx_10_2, rx_33_0, rx_33_1, rx_67_0, rx_68_0, rx_197_0, rx_199_5, rx_199_6, rx_199_7, rx_203_0, rx_203_1, rx_203_2, rx_206_0, rx_206_1, rx_206_2, rx_206_3, Option.bind_some, Option.toList_some, Option.toList_none, List.cons_append, List.nil_append, ↓reduceIte, p_138, p_139, decide_eq_true hv, decide_eq_true hl, zi_bI_t, if_neg h40, if_pos h0]
          · show zv 3 235 0 _ _ _ = _
            rw [pr, b235_8, if_neg h40, b235_16, if_pos h0, b235_20]
        · obtain ⟨z, hz, rfl⟩ := nI_ex' (b := 40) (by decide) h0 h40
          obtain ⟨m1, em1⟩ : ∃ m1, m1 = zh_fi (zh_wi (zh_wi h 205 c (nI la)) 204 c (nI z)) (207 + c) 40 0 := ⟨_, rfl⟩
          have c1 : zv 3 127 0 [.ref 0, .int (nI c), .int (nI la), .int (nI z)] [] h = some (some (.int 1), m1) := by
            rw [em1]
            have e23 := k_shc S (c := c) (by omega) (l := nI la) (n := nI z)
            simp +decide only [b127_0, b127_4, b127_7, b127_11, b127_14, b127_22, b127_29, b127_39, S.n, S.k, S.r, hp_n_wi, hp_k_wi, hp_r_wi, hp_n_wl, hp_k_wl, hp_r_wl, hp_n_wb, hp_k_wb, hp_r_wb, zq_rf, kx_0, kx_1, kx_2, kx_3, kx_4, kx_5, kx_6, kx_7, kx_8, kx_9, kx_10, kx_11, kx_12, kx_13, kx_14, kx_15, kx_16, kx_17, kx_33, kx_34, kx_50, kx_66, kx_67, kx_68, kx_69, kx_197, kx_198, kx_199, kx_200, kx_201, kx_202, kx_203, kx_204, kx_205, kx_206, kx_207, kx_208, kx_209, kx_210, rx_0_0, rx_0_1, rx_0_2, rx_0_3, rx_0_4, rx_0_5, rx_0_6, rx_0_7, rx_1_0, rx_1_1, rx_2_3, rx_2_4, rx_2_5, rx_2_6, rx_2_7, rx_2_8, rx_2_9, rx_10_0, rx_10_1, rx_10_2, rx_33_0, rx_33_1, rx_67_0, rx_68_0, rx_197_0, rx_199_5, rx_199_6, rx_199_7, rx_203_0, rx_203_1, rx_203_2, rx_206_0, rx_206_1, rx_206_2, rx_206_3, Option.bind_some, Option.toList_some, Option.toList_none, List.cons_append, List.nil_append, ↓reduceIte, p_138, p_139, decide_eq_true hv, decide_eq_true hl, zi_bI_t, if_neg h40, if_neg h0, e23]
          obtain ⟨m9, e9, O1, F1, -, -⟩ := c_sheet g (nI c) (nI la) (nI z)
          rw [c1] at e9
          obtain rfl := rt_2 e9
          have S1 := O1.1
          have Q1 : RO m1 := r.fc S1 F1
          obtain ⟨m2, em2⟩ : ∃ m2, m2 = zfl (zh_wi (zh_wi m1 230 c (nI la)) 231 c (nI z)) 232 (40 * c + 0) (40 * c + 40) 0 := ⟨_, rfl⟩
          have c2 : zv 3 235 0 [.ref 211, .int (nI c), .int (nI la), .int (nI z), u] [] m1 = some (some (.int 1), m2) := by
            have S := S1
            have r35 : zh_r m1 211 35 = .ref 230 := by rw [S.r, rx_211_35]
            have r36 : zh_r m1 211 36 = .ref 231 := by rw [S.r, rx_211_36]
            have hz4 : ¬ (nI c < 0 ∨ 4 ≤ (nI c).toNatClampNeg) := zj_n (by omega) (by decide)
            rw [pr, b235_8, if_neg h40, b235_16, if_neg h0, b235_23 (S_g0 S) (S_g1 S) (by rw [r35, zq_rf]) (by rw [r35, zq_rf, S.n]; decide) (by rw [r35, zq_rf, S.k, kx_230]; exact hz4) (by rw [r35, zq_rf, S.k, kx_230]) (by rw [r36, zq_rf]) (by rw [r36, zq_rf, S.n]; decide) (by rw [r36, zq_rf, S.k, kx_231]; exact hz4) (by rw [r36, zq_rf, S.k, kx_231]), r35, r36, zq_rf, zq_rf, nI_clamp (by omega), show (0 : Int32) = nI 0 from rfl, em2]
            exact q_shL2 (k := c) (by omega) 40 0 rfl ((S.wi _ _ _).wi _ _ _)
          obtain ⟨m9, e9, O9, F9, -, -⟩ := o_sheet Q1 (nI c) (nI la) (nI z) (u := u)
          rw [c2] at e9
          obtain rfl := rt_2 e9
          have k1 : ∀ a j, a ≠ 204 → a ≠ 205 → a ≠ 207 + c → a ≠ 230 → a ≠ 231 → a ≠ 232 → zh_i m2 a j = zh_i h a j := fun a j q1 q2 q3 q4 q5 q6 => by
            rw [em2, zfl_i, if_neg (by omega), hp_i_wi, if_neg (by omega), hp_i_wi, if_neg (by omega), em1, hp_i_fi, if_neg (by omega), hp_i_wi, if_neg (by omega), hp_i_wi, if_neg (by omega)]
          have b1 : ∀ a j, zh_b m2 a j = zh_b h a j := fun a j => by rw [em2, em1]; rfl
          have w4 : ∀ j, zh_i m2 204 j = if j = c then nI z else zh_i h 204 j := fun j => by
            rw [em2, zfl_i, if_neg (by omega), hp_i_wi, if_neg (by omega), hp_i_wi, if_neg (by omega), em1, hp_i_fi, if_neg (by omega), hp_i_wi]
            by_cases e : j = c
            · rw [if_pos ⟨rfl, e⟩, if_pos e]
            · rw [if_neg (fun w => e w.2), if_neg e, hp_i_wi, if_neg (by omega)]
          have w5 : ∀ j, zh_i m2 205 j = if j = c then nI la else zh_i h 205 j := fun j => by
            rw [em2, zfl_i, if_neg (by omega), hp_i_wi, if_neg (by omega), hp_i_wi, if_neg (by omega), em1, hp_i_fi, if_neg (by omega), hp_i_wi, if_neg (by omega), hp_i_wi]
            by_cases e : j = c
            · rw [if_pos ⟨rfl, e⟩, if_pos e]
            · rw [if_neg (fun w => e w.2), if_neg e]
          have w30 : ∀ j, zh_i m2 230 j = if j = c then nI la else zh_i h 230 j := fun j => by
            rw [em2, zfl_i, if_neg (by omega), hp_i_wi, if_neg (by omega), hp_i_wi]
            by_cases e : j = c
            · rw [if_pos ⟨rfl, e⟩, if_pos e]
            · rw [if_neg (fun w => e w.2), if_neg e, (F1.1 230 j (by decide)).1]
          have w31 : ∀ j, zh_i m2 231 j = if j = c then nI z else zh_i h 231 j := fun j => by
            rw [em2, zfl_i, if_neg (by omega), hp_i_wi]
            by_cases e : j = c
            · rw [if_pos ⟨rfl, e⟩, if_pos e]
            · rw [if_neg (fun w => e w.2), if_neg e, hp_i_wi, if_neg (by omega), (F1.1 231 j (by decide)).1]
          refine ⟨1, m1, m2, c1, S1, F1.2.1.trans l, F1.2.2, c2, O9, O1.fx O9.1 F9, G.of1 (fun o j ho => ⟨k1 _ _ (by omega) (by omega) (by omega) (by omega) (by omega) (by omega), b1 _ _⟩) (fun j _ => k1 _ _ (by omega) (by omega) (by omega) (by omega) (by omega) (by omega)), ⟨X.1.same (fun a j q => ⟨k1 _ _ (by omega) (by omega) (by omega) (by omega) (by omega) (by omega), b1 _ _⟩), ?_, X.2.2.1.same (k1 _ _ (by omega) (by omega) (by omega) (by omega) (by omega) (by omega)) (fun j => k1 _ _ (by omega) (by omega) (by omega) (by omega) (by omega) (by omega)) (fun j => k1 _ _ (by omega) (by omega) (by omega) (by omega) (by omega) (by omega)), fun k hk => ?_, fun k hk i hi => ?_, ?_⟩, ?_⟩
          · rw [k1 197 1 (by omega) (by omega) (by omega) (by omega) (by omega) (by omega), k1 211 8 (by omega) (by omega) (by omega) (by omega) (by omega) (by omega)]; exact X.2.1
          · rw [w4, w5, w30, w31]
            by_cases e : k = c
            · rw [if_pos e, if_pos e, if_pos e, if_pos e]
              exact Or.inr ⟨nI_n4 _ (by omega), rfl, z, hz, rfl, rfl⟩
            · rw [if_neg e, if_neg e, if_neg e, if_neg e]
              exact X.2.2.2.1 k hk
          · have sc := X.2.2.2.2.1 k hk i hi
            by_cases e : k = c
            · subst e
              rw [em2, zfl_i, if_neg (by omega), zfl_i, if_pos ⟨rfl, by omega, by omega⟩, hp_i_wi, if_neg (by omega), hp_i_wi, if_neg (by omega), em1, hp_i_fi, if_pos ⟨rfl, hi⟩]
            · rw [k1 _ _ (by omega) (by omega) (by omega) (by omega) (by omega) (by omega), sc, em2, zfl_i, if_neg (fun w => by omega), hp_i_wi, if_neg (by omega), hp_i_wi, if_neg (by omega), (F1.1 232 _ (by decide)).1]
          · rw [k1 0 8 (by omega) (by omega) (by omega) (by omega) (by omega) (by omega), k1 211 38 (by omega) (by omega) (by omega) (by omega) (by omega) (by omega)]; exact X.2.2.2.2.2
          · rw [F9.2.1, F1.2.1]; exact l
    · have hl : ¬ (¬ y < 0 ∧ y < 3) := fun q => hy ((rg (b := 2) (by decide)).mp q)
      refine Al.same R (-1) ?_ ?_
      · simp +decide only [b127_0, b127_4, b127_7, b127_11, b127_20, S.n, S.k, S.r, hp_n_wi, hp_k_wi, hp_r_wi, hp_n_wl, hp_k_wl, hp_r_wl, hp_n_wb, hp_k_wb, hp_r_wb, zq_rf, kx_0, kx_1, kx_2, kx_3, kx_4, kx_5, kx_6, kx_7, kx_8, kx_9, kx_10, kx_11, kx_12, kx_13, kx_14, kx_15, kx_16, kx_17, kx_33, kx_34, kx_50, kx_66, kx_67, kx_68, kx_69, kx_197, kx_198, kx_199, kx_200, kx_201, kx_202, kx_203, kx_204, kx_205, kx_206, kx_207, kx_208, kx_209, kx_210, rx_0_0, rx_0_1, rx_0_2, rx_0_3, rx_0_4, rx_0_5, rx_0_6, rx_0_7, rx_1_0, rx_1_1, rx_2_3, rx_2_4, rx_2_5, rx_2_6, rx_2_7, rx_2_8, rx_2_9, rx_10_0, rx_10_1, rx_10_2, rx_33_0, rx_33_1, rx_67_0, rx_68_0, rx_197_0, rx_199_5, rx_199_6, rx_199_7, rx_203_0, rx_203_1, rx_203_2, rx_206_0, rx_206_1, rx_206_2, rx_206_3, Option.bind_some, Option.toList_some, Option.toList_none, List.cons_append, List.nil_append, ↓reduceIte, p_138, p_139, decide_eq_true hv, decide_eq_false hl, zi_bI_t, zi_bI_f]
      · show zv 3 235 0 _ _ _ = _
        rw [b235_0, q_shn (fun w => hy w.2)]
        simp only [Option.bind_some, Option.toList_some, Option.toList_none, List.cons_append, List.nil_append]
        rw [b235_5, if_pos rfl, b235_14]
  · have hv : ¬ (¬ x < 0 ∧ x < 4) := fun q => hx ((rg (b := 3) (by decide)).mp q)
    refine Al.same R (-1) ?_ ?_
    · simp +decide only [b127_0, b127_4, b127_20, S.n, S.k, S.r, hp_n_wi, hp_k_wi, hp_r_wi, hp_n_wl, hp_k_wl, hp_r_wl, hp_n_wb, hp_k_wb, hp_r_wb, zq_rf, kx_0, kx_1, kx_2, kx_3, kx_4, kx_5, kx_6, kx_7, kx_8, kx_9, kx_10, kx_11, kx_12, kx_13, kx_14, kx_15, kx_16, kx_17, kx_33, kx_34, kx_50, kx_66, kx_67, kx_68, kx_69, kx_197, kx_198, kx_199, kx_200, kx_201, kx_202, kx_203, kx_204, kx_205, kx_206, kx_207, kx_208, kx_209, kx_210, rx_0_0, rx_0_1, rx_0_2, rx_0_3, rx_0_4, rx_0_5, rx_0_6, rx_0_7, rx_1_0, rx_1_1, rx_2_3, rx_2_4, rx_2_5, rx_2_6, rx_2_7, rx_2_8, rx_2_9, rx_10_0, rx_10_1, rx_10_2, rx_33_0, rx_33_1, rx_67_0, rx_68_0, rx_197_0, rx_199_5, rx_199_6, rx_199_7, rx_203_0, rx_203_1, rx_203_2, rx_206_0, rx_206_1, rx_206_2, rx_206_3, Option.bind_some, Option.toList_some, Option.toList_none, List.cons_append, List.nil_append, ↓reduceIte, p_138, decide_eq_false hv, zi_bI_f]
    · show zv 3 235 0 _ _ _ = _
      rw [b235_0, q_shn (fun w => hx w.1)]
      simp only [Option.bind_some, Option.toList_some, Option.toList_none, List.cons_append, List.nil_append]
      rw [b235_5, if_pos rfl, b235_14]
theorem s_wrV (S : Sh h) {c j : Nat} (hc : c < 4) (hj : j < 40) {v : Int32} : zv 2 26 0 [.ref 203, .int (nI c), .int (nI j), .int v] [] h = some (none, zh_wi h (207 + c) j (wrV (zh_i h 205 c) v)) := by
  have hv : ¬ nI c < 0 ∧ nI c < 4 := ⟨nI_pos (by omega), nI_lt (b := 4) hc (by decide)⟩
  have h0 : ¬ nI j < 0 := nI_pos (by omega)
  have h40 : nI j < 40 := nI_lt (b := 40) hj (by decide)
  have nc : (nI j).toNatClampNeg = j := nI_clamp (by omega)
  have hz : ¬ (nI j < 0 ∨ 40 ≤ j) := by have q := zj_n (N := 40) hj (by decide); rw [nc] at q; exact q
  unfold wrV
  have : c = 0 ∨ c = 1 ∨ c = 2 ∨ c = 3 := by omega
  rcases this with rfl | rfl | rfl | rfl
  all_goals
    simp +decide only [b26_0, b26_4, b26_7, b26_11, b26_17, b26_18, b26_34, b26_39, b26_49, b26_54, b26_55, S.n, S.k, S.r, hp_n_wi, hp_k_wi, hp_r_wi, hp_n_wl, hp_k_wl, hp_r_wl, hp_n_wb, hp_k_wb, hp_r_wb, zq_rf, kx_0, kx_1, kx_2, kx_3, kx_4, kx_5, kx_6, kx_7, kx_8, kx_9, kx_10, kx_11, kx_12, kx_13, kx_14, kx_15, kx_16, kx_17, kx_33, kx_34, kx_50, kx_66, kx_67, kx_68, kx_69, kx_197, kx_198, kx_199, kx_200, kx_201, kx_202, kx_203, kx_204, kx_205, kx_206, kx_207, kx_208, kx_209, kx_210, rx_0_0, rx_0_1, rx_0_2, rx_0_3, rx_0_4, rx_0_5, rx_0_6, rx_0_7, rx_1_0, rx_1_1, rx_2_3, rx_2_4, rx_2_5, rx_2_6, rx_2_7, rx_2_8, rx_2_9, rx_10_0, rx_10_1, rx_10_2, rx_33_0, rx_33_1, rx_67_0, rx_68_0, rx_197_0, rx_199_5, rx_199_6, rx_199_7, rx_203_0, rx_203_1, rx_203_2, rx_206_0, rx_206_1, rx_206_2, rx_206_3, Option.bind_some, Option.toList_some, Option.toList_none, List.cons_append, List.nil_append, ↓reduceIte, p_138, decide_eq_true hv, zi_bI_t, tc_0, tc_1, tc_2, tc_3, if_neg h0, if_pos h40, nc, hz]
    repeat' split
    all_goals rfl
theorem a_lay (R : R3 L h) (x y w : Int32) {u : Value} : Al L h (zv 3 128 0 [.ref 0, .int x, .int y, .int w, u] [] h) (fun m => zv 3 236 0 [.ref 211, .int x, .int y, .int w] [] m) := by
  obtain ⟨r, g, G, X, l⟩ := id R
  have S := r.1
  rcases in_or x 0 3 (by decide) (by decide) with ⟨c, -, hc, rfl, hx⟩ | hx
  · have hv : ¬ nI c < 0 ∧ nI c < 4 := (rg (b := 3) (by decide)).mpr hx
    have hc4 : c < 4 := by omega
    have nc : (nI c).toNatClampNeg = c := nI_clamp (by omega)
    have go : zv 3 128 0 [.ref 0, .int (nI c), .int y, .int w, u] [] h = zv 3 128 27 [.ref 0, .int (nI c), .int y, .int w, u] [.int (faV (zh_i h 204 c) (zh_i h 205 c) (zh_i h 205 c) y)] h := by
      have e24 := s_fav g hc4 (zh_i h 205 c) y
      have : c = 0 ∨ c = 1 ∨ c = 2 ∨ c = 3 := by omega
      rcases this with rfl | rfl | rfl | rfl
      · simp +decide only [b128_0, b128_4, b128_9, S.n, S.k, S.r, hp_n_wi, hp_k_wi, hp_r_wi, hp_n_wl, hp_k_wl, hp_r_wl, hp_n_wb, hp_k_wb, hp_r_wb, zq_rf, kx_0, kx_1, kx_2, kx_3, kx_4, kx_5, kx_6, kx_7, kx_8, kx_9, kx_10, kx_11, kx_12, kx_13, kx_14, kx_15, kx_16, kx_17, kx_33, kx_34, kx_50, kx_66, kx_67, kx_68, kx_69, kx_197, kx_198, kx_199, kx_200, kx_201, kx_202, kx_203, kx_204, kx_205, kx_206, kx_207, kx_208, kx_209, kx_210, rx_0_0, rx_0_1, rx_0_2, rx_0_3, rx_0_4, rx_0_5, rx_0_6, rx_0_7, rx_1_0, rx_1_1, rx_2_3, rx_2_4, rx_2_5, rx_2_6, rx_2_7, rx_2_8, rx_2_9, rx_10_0, rx_10_1, rx_10_2, rx_33_0, rx_33_1, rx_67_0, rx_68_0, rx_197_0, rx_199_5, rx_199_6, rx_199_7, rx_203_0, rx_203_1, rx_203_2, rx_206_0, rx_206_1, rx_206_2, rx_206_3, Option.bind_some, Option.toList_some, Option.toList_none, List.cons_append, List.nil_append, ↓reduceIte, p_138, decide_eq_true hv, zi_bI_t, tc_0, e24]
      · simp +decide only [b128_0, b128_4, b128_9, S.n, S.k, S.r, hp_n_wi, hp_k_wi, hp_r_wi, hp_n_wl, hp_k_wl, hp_r_wl, hp_n_wb, hp_k_wb, hp_r_wb, zq_rf, kx_0, kx_1, kx_2, kx_3, kx_4, kx_5, kx_6, kx_7, kx_8, kx_9, kx_10, kx_11, kx_12, kx_13, kx_14, kx_15, kx_16, kx_17, kx_33, kx_34, kx_50, kx_66, kx_67, kx_68, kx_69, kx_197, kx_198, kx_199, kx_200, kx_201, kx_202, kx_203, kx_204, kx_205, kx_206, kx_207, kx_208, kx_209, kx_210, rx_0_0, rx_0_1, rx_0_2, rx_0_3, rx_0_4, rx_0_5, rx_0_6, rx_0_7, rx_1_0, rx_1_1, rx_2_3, rx_2_4, rx_2_5, rx_2_6, rx_2_7, rx_2_8, rx_2_9, rx_10_0, rx_10_1, rx_10_2, rx_33_0, rx_33_1, rx_67_0, rx_68_0, rx_197_0, rx_199_5, rx_199_6, rx_199_7, rx_203_0, rx_203_1, rx_203_2, rx_206_0, rx_206_1, rx_206_2, rx_206_3, Option.bind_some, Option.toList_some, Option.toList_none, List.cons_append, List.nil_append, ↓reduceIte, p_138, decide_eq_true hv, zi_bI_t, tc_1, e24]
      · simp +decide only [b128_0, b128_4, b128_9, S.n, S.k, S.r, hp_n_wi, hp_k_wi, hp_r_wi, hp_n_wl, hp_k_wl, hp_r_wl, hp_n_wb, hp_k_wb, hp_r_wb, zq_rf, kx_0, kx_1, kx_2, kx_3, kx_4, kx_5, kx_6, kx_7, kx_8, kx_9, kx_10, kx_11, kx_12, kx_13, kx_14, kx_15, kx_16, kx_17, kx_33, kx_34, kx_50, kx_66, kx_67, kx_68, kx_69, kx_197, kx_198, kx_199, kx_200, kx_201, kx_202, kx_203, kx_204, kx_205, kx_206, kx_207, kx_208, kx_209, kx_210, rx_0_0, rx_0_1, rx_0_2, rx_0_3, rx_0_4, rx_0_5, rx_0_6, rx_0_7, rx_1_0, rx_1_1, rx_2_3, rx_2_4, rx_2_5, rx_2_6, rx_2_7, rx_2_8, rx_2_9, rx_10_0, rx_10_1, rx_10_2, rx_33_0, rx_33_1, rx_67_0, rx_68_0, rx_197_0, rx_199_5, rx_199_6, rx_199_7, rx_203_0, rx_203_1, rx_203_2, rx_206_0, rx_206_1, rx_206_2, rx_206_3, Option.bind_some, Option.toList_some, Option.toList_none, List.cons_append, List.nil_append, ↓reduceIte, p_138, decide_eq_true hv, zi_bI_t, tc_2, e24]
      · simp +decide only [b128_0, b128_4, b128_9, S.n, S.k, S.r, hp_n_wi, hp_k_wi, hp_r_wi, hp_n_wl, hp_k_wl, hp_r_wl, hp_n_wb, hp_k_wb, hp_r_wb, zq_rf, kx_0, kx_1, kx_2, kx_3, kx_4, kx_5, kx_6, kx_7, kx_8, kx_9, kx_10, kx_11, kx_12, kx_13, kx_14, kx_15, kx_16, kx_17, kx_33, kx_34, kx_50, kx_66, kx_67, kx_68, kx_69, kx_197, kx_198, kx_199, kx_200, kx_201, kx_202, kx_203, kx_204, kx_205, kx_206, kx_207, kx_208, kx_209, kx_210, rx_0_0, rx_0_1, rx_0_2, rx_0_3, rx_0_4, rx_0_5, rx_0_6, rx_0_7, rx_1_0, rx_1_1, rx_2_3, rx_2_4, rx_2_5, rx_2_6, rx_2_7, rx_2_8, rx_2_9, rx_10_0, rx_10_1, rx_10_2, rx_33_0, rx_33_1, rx_67_0, rx_68_0, rx_197_0, rx_199_5, rx_199_6, rx_199_7, rx_203_0, rx_203_1, rx_203_2, rx_206_0, rx_206_1, rx_206_2, rx_206_3, Option.bind_some, Option.toList_some, Option.toList_none, List.cons_append, List.nil_append, ↓reduceIte, p_138, decide_eq_true hv, zi_bI_t, tc_3, e24]
    have hz4 : ¬ (nI c < 0 ∨ 4 ≤ (nI c).toNatClampNeg) := zj_n (by omega) (by decide)
    have pr : ∀ {m : zi_Hp}, Sh m → zv 3 236 0 [.ref 211, .int (nI c), .int y, .int w] [] m = if zh_i m 230 c = -4 then some (some (.int (-11)), m) else zv 3 236 24 [.ref 211, .int (nI c), .int y, .int w] [] m := fun {m} S => by
      have r35 : zh_r m 211 35 = .ref 230 := by rw [S.r, rx_211_35]
      rw [b236_0, q_shy hx (by decide)]
      simp only [Option.bind_some, Option.toList_some, Option.toList_none, List.cons_append, List.nil_append]
      rw [b236_5, if_neg (by decide), b236_10 (S_g0 S) (S_g1 S) (by rw [r35, zq_rf]) (by rw [r35, zq_rf, S.n]; decide) (by rw [r35, zq_rf, S.k, kx_230]; exact hz4) (by rw [r35, zq_rf, S.k, kx_230]), r35, zq_rf, nc, b236_21]
    rcases X.2.2.2.1 c hc4 with ⟨t1, t2⟩ | ⟨t1, t2, z, hz, t3, t4⟩
    · refine Al.same R (-11) ?_ ?_
      · rw [go, t1]
        unfold faV
        rw [if_pos (by decide)]
        simp +decide only [b128_27, b128_34, S.n, S.k, S.r, hp_n_wi, hp_k_wi, hp_r_wi, hp_n_wl, hp_k_wl, hp_r_wl, hp_n_wb, hp_k_wb, hp_r_wb, zq_rf, kx_0, kx_1, kx_2, kx_3, kx_4, kx_5, kx_6, kx_7, kx_8, kx_9, kx_10, kx_11, kx_12, kx_13, kx_14, kx_15, kx_16, kx_17, kx_33, kx_34, kx_50, kx_66, kx_67, kx_68, kx_69, kx_197, kx_198, kx_199, kx_200, kx_201, kx_202, kx_203, kx_204, kx_205, kx_206, kx_207, kx_208, kx_209, kx_210, rx_0_0, rx_0_1, rx_0_2, rx_0_3, rx_0_4, rx_0_5, rx_0_6, rx_0_7, rx_1_0, rx_1_1, rx_2_3, rx_2_4, rx_2_5, rx_2_6, rx_2_7, rx_2_8, rx_2_9, rx_10_0, rx_10_1, rx_10_2, rx_33_0, rx_33_1, rx_67_0, rx_68_0, rx_197_0, rx_199_5, rx_199_6, rx_199_7, rx_203_0, rx_203_1, rx_203_2, rx_206_0, rx_206_1, rx_206_2, rx_206_3, Option.bind_some, Option.toList_some, Option.toList_none, List.cons_append, List.nil_append, ↓reduceIte]; rfl
      · show zv 3 236 0 _ _ _ = _
        rw [pr S, if_pos t2]
    · have pr2 : ∀ {m : zi_Hp}, Sh m → zh_i m 230 c = zh_i h 230 c → zh_i m 231 c = zh_i h 231 c → zv 3 236 0 [.ref 211, .int (nI c), .int y, .int w] [] m = if (0 : Int32) ≤ y ∧ y ≤ nI z - 1 then zv 3 236 45 [.ref 211, .int (nI c), .int y, .int w] [] m else some (some (.int (-12)), m) := fun {m} S e0 e1 => by
        have r36 : zh_r m 211 36 = .ref 231 := by rw [S.r, rx_211_36]
        rw [pr S, e0, if_neg t1, b236_24 (S_g0 S) (S_g1 S) (by rw [r36, zq_rf]) (by rw [r36, zq_rf, S.n]; decide) (by rw [r36, zq_rf, S.k, kx_231]; exact hz4) (by rw [r36, zq_rf, S.k, kx_231]), r36, zq_rf, nc, e1, t4, show (0 : Int64) = (0 : Int32).toInt64 from rfl, c_inI]
        simp only [Option.bind_some, Option.toList_some, Option.toList_none, List.cons_append, List.nil_append]
        rw [b236_39]
        by_cases hi : (0 : Int32) ≤ y ∧ y ≤ nI z - 1
        · rw [if_pos hi, if_pos hi, if_neg (by decide)]
        · rw [if_neg hi, if_neg hi, if_pos rfl, b236_42]
      by_cases hi : (0 : Int32) ≤ y ∧ y ≤ nI z - 1
      · have hi2 := (rg1 (by omega)).mpr hi
        obtain ⟨j, hj, rfl⟩ := nI_ex (b := z) (by omega) hi2.1 hi2.2
        have hfa : faV (zh_i h 204 c) (zh_i h 205 c) (zh_i h 205 c) (nI j) = 0 := by
          unfold faV
          rw [t3, if_neg (nI_pos (by omega)), if_pos rfl, if_neg hi2.1, if_pos hi2.2]
        obtain ⟨m1, em1⟩ : ∃ m1, m1 = zh_wi h (207 + c) j (wrV (zh_i h 205 c) w) := ⟨_, rfl⟩
        have e26 := s_wrV S hc4 (j := j) (by omega) (v := w)
        rw [← em1] at e26
        have c1 : zv 3 128 0 [.ref 0, .int (nI c), .int (nI j), .int w, u] [] h = some (some (.int 1), m1) := by
          rw [go, hfa]
          simp +decide only [b128_27, b128_40, b128_50, S.n, S.k, S.r, hp_n_wi, hp_k_wi, hp_r_wi, hp_n_wl, hp_k_wl, hp_r_wl, hp_n_wb, hp_k_wb, hp_r_wb, zq_rf, kx_0, kx_1, kx_2, kx_3, kx_4, kx_5, kx_6, kx_7, kx_8, kx_9, kx_10, kx_11, kx_12, kx_13, kx_14, kx_15, kx_16, kx_17, kx_33, kx_34, kx_50, kx_66, kx_67, kx_68, kx_69, kx_197, kx_198, kx_199, kx_200, kx_201, kx_202, kx_203, kx_204, kx_205, kx_206, kx_207, kx_208, kx_209, kx_210, rx_0_0, rx_0_1, rx_0_2, rx_0_3, rx_0_4, rx_0_5, rx_0_6, rx_0_7, rx_1_0, rx_1_1, rx_2_3, rx_2_4, rx_2_5, rx_2_6, rx_2_7, rx_2_8, rx_2_9, rx_10_0, rx_10_1, rx_10_2, rx_33_0, rx_33_1, rx_67_0, rx_68_0, rx_197_0, rx_199_5, rx_199_6, rx_199_7, rx_203_0, rx_203_1, rx_203_2, rx_206_0, rx_206_1, rx_206_2, rx_206_3, Option.bind_some, Option.toList_some, Option.toList_none, List.cons_append, List.nil_append, ↓reduceIte, e26]
        have O1 : GO m1 := by rw [em1]; exact g.wi (wo_p (by omega))
        have F1 : Fb h m1 := by rw [em1]; exact Fb.wi (by omega)
        have S1 := O1.1
        have Q1 : RO m1 := r.fc S1 F1
        obtain ⟨m2, em2⟩ : ∃ m2, m2 = zh_wi m1 232 (40 * c + j) (wrV (zh_i h 205 c) w) := ⟨_, rfl⟩
        have c2 : zv 3 236 0 [.ref 211, .int (nI c), .int (nI j), .int w] [] m1 = some (some (.int 1), m2) := by
          have S := S1
          have r35 : zh_r m1 211 35 = .ref 230 := by rw [S.r, rx_211_35]
          have r37 : zh_r m1 211 37 = .ref 232 := by rw [S.r, rx_211_37]
          have e0 : zh_i m1 230 c = zh_i h 230 c := (F1.1 230 c (by decide)).1
          have fin : ∀ v : Int32, zv 3 236 85 [.ref 211, .int (nI c), .int (nI j), .int w] [.int v, .int (40 * nI c + nI j), .ref 232] m1 = some (some (.int 1), zh_wi m1 232 (40 * c + j) v) := fun v => by
            rw [nI_iy, b236_85 (by rw [S.n]; decide) (by rw [S.k, kx_232]; exact zj_n (by omega) (by decide)) (by rw [S.k, kx_232]), nI_clamp (by omega)]
          rw [pr2 S e0 (F1.1 231 c (by decide)).1, if_pos hi, b236_45 (S_g0 S) (S_g1 S) (by rw [r37, zq_rf]) (by rw [r35, zq_rf]) (by rw [r35, zq_rf, S.n]; decide) (by rw [r35, zq_rf, S.k, kx_230]; exact hz4) (by rw [r35, zq_rf, S.k, kx_230]), r35, r37, zq_rf, zq_rf, nc, e0, em2, t2]
          unfold wrV
          by_cases h0 : zh_i h 230 c = 0
          · rw [if_pos h0, if_pos h0, b236_64]; exact fin _
          · rw [if_neg h0, if_neg h0, b236_69 (S_g0 S) (S_g1 S) (by rw [r35, zq_rf]) (by rw [r35, zq_rf, S.n]; decide) (by rw [r35, zq_rf, S.k, kx_230]; exact hz4) (by rw [r35, zq_rf, S.k, kx_230]), r35, zq_rf, nc, e0]
            by_cases h1 : zh_i h 230 c = 1
            · rw [if_pos h1, if_pos h1, b236_79]; exact fin _
            · rw [if_neg h1, if_neg h1, b236_84]; exact fin _
        obtain ⟨v9, m9, e9, O9, F9⟩ := o_lay Q1 (nI c) (nI j) w
        rw [c2] at e9
        obtain rfl := rt_2 e9
        have k1 : ∀ a k, (a ≠ 207 + c ∨ k ≠ j) → (a ≠ 232 ∨ k ≠ 40 * c + j) → zh_i m2 a k = zh_i h a k := fun a k q1 q2 => by
          rw [em2, hp_i_wi, if_neg (by omega), em1, hp_i_wi, if_neg (by omega)]
        have b1 : ∀ a j, zh_b m2 a j = zh_b h a j := fun a j => by rw [em2, em1]; rfl
        refine ⟨1, m1, m2, c1, S1, F1.2.1.trans l, F1.2.2, c2, O9, O1.fx O9.1 F9.1.1, G.of1 (fun o j ho => ⟨k1 _ _ (by omega) (by omega), b1 _ _⟩) (fun j _ => k1 _ _ (by omega) (by omega)), ⟨X.1.same (fun a j q => ⟨k1 _ _ (by omega) (by omega), b1 _ _⟩), ?_, X.2.2.1.same (k1 _ _ (by omega) (by omega)) (fun j => k1 _ _ (by omega) (by omega)) (fun j => k1 _ _ (by omega) (by omega)), X.2.2.2.1.same (fun k => ⟨k1 _ _ (by omega) (by omega), k1 _ _ (by omega) (by omega), k1 _ _ (by omega) (by omega), k1 _ _ (by omega) (by omega)⟩), fun k hk i hi => ?_, ?_⟩, ?_⟩
        · rw [k1 197 1 (by omega) (by omega), k1 211 8 (by omega) (by omega)]; exact X.2.1
        · by_cases e : k = c ∧ i = j
          · obtain ⟨rfl, rfl⟩ := e
            rw [em2, hp_i_wi, if_neg (by omega), hp_i_wi, if_pos ⟨rfl, rfl⟩, em1, hp_i_wi, if_pos ⟨rfl, rfl⟩]
          · rw [k1 _ _ (by omega) (by omega), k1 232 _ (by omega) (by omega)]
            exact X.2.2.2.2.1 k hk i hi
        · rw [k1 0 8 (by omega) (by omega), k1 211 38 (by omega) (by omega)]; exact X.2.2.2.2.2
        · rw [F9.1.1.2.1, F1.2.1]; exact l
      · have hi2 : ¬ (¬ y < 0 ∧ y < nI z) := fun q => hi ((rg1 (by omega)).mp q)
        have hfa : faV (zh_i h 204 c) (zh_i h 205 c) (zh_i h 205 c) y = 2 := by
          unfold faV
          rw [t3, if_neg (nI_pos (by omega)), if_pos rfl]
          by_cases q0 : y < 0
          · rw [if_pos q0]
          · rw [if_neg q0, if_neg (fun w => hi2 ⟨q0, w⟩)]
        refine Al.same R (-12) ?_ ?_
        · rw [go, hfa]
          simp +decide only [b128_27, b128_34, S.n, S.k, S.r, hp_n_wi, hp_k_wi, hp_r_wi, hp_n_wl, hp_k_wl, hp_r_wl, hp_n_wb, hp_k_wb, hp_r_wb, zq_rf, kx_0, kx_1, kx_2, kx_3, kx_4, kx_5, kx_6, kx_7, kx_8, kx_9, kx_10, kx_11, kx_12, kx_13, kx_14, kx_15, kx_16, kx_17, kx_33, kx_34, kx_50, kx_66, kx_67, kx_68, kx_69, kx_197, kx_198, kx_199, kx_200, kx_201, kx_202, kx_203, kx_204, kx_205, kx_206, kx_207, kx_208, kx_209, kx_210, rx_0_0, rx_0_1, rx_0_2, rx_0_3, rx_0_4, rx_0_5, rx_0_6, rx_0_7, rx_1_0, rx_1_1, rx_2_3, rx_2_4, rx_2_5, rx_2_6, rx_2_7, rx_2_8, rx_2_9, rx_10_0, rx_10_1, rx_10_2, rx_33_0, rx_33_1, rx_67_0, rx_68_0, rx_197_0, rx_199_5, rx_199_6, rx_199_7, rx_203_0, rx_203_1, rx_203_2, rx_206_0, rx_206_1, rx_206_2, rx_206_3, Option.bind_some, Option.toList_some, Option.toList_none, List.cons_append, List.nil_append, ↓reduceIte]; rfl
        · show zv 3 236 0 _ _ _ = _
          rw [pr2 S rfl rfl, if_neg hi]
  · have hv : ¬ (¬ x < 0 ∧ x < 4) := fun q => hx ((rg (b := 3) (by decide)).mp q)
    refine Al.same R (-1) ?_ ?_
    · simp +decide only [b128_0, b128_4, b128_7, S.n, S.k, S.r, hp_n_wi, hp_k_wi, hp_r_wi, hp_n_wl, hp_k_wl, hp_r_wl, hp_n_wb, hp_k_wb, hp_r_wb, zq_rf, kx_0, kx_1, kx_2, kx_3, kx_4, kx_5, kx_6, kx_7, kx_8, kx_9, kx_10, kx_11, kx_12, kx_13, kx_14, kx_15, kx_16, kx_17, kx_33, kx_34, kx_50, kx_66, kx_67, kx_68, kx_69, kx_197, kx_198, kx_199, kx_200, kx_201, kx_202, kx_203, kx_204, kx_205, kx_206, kx_207, kx_208, kx_209, kx_210, rx_0_0, rx_0_1, rx_0_2, rx_0_3, rx_0_4, rx_0_5, rx_0_6, rx_0_7, rx_1_0, rx_1_1, rx_2_3, rx_2_4, rx_2_5, rx_2_6, rx_2_7, rx_2_8, rx_2_9, rx_10_0, rx_10_1, rx_10_2, rx_33_0, rx_33_1, rx_67_0, rx_68_0, rx_197_0, rx_199_5, rx_199_6, rx_199_7, rx_203_0, rx_203_1, rx_203_2, rx_206_0, rx_206_1, rx_206_2, rx_206_3, Option.bind_some, Option.toList_some, Option.toList_none, List.cons_append, List.nil_append, ↓reduceIte, p_138, decide_eq_false hv, zi_bI_f]
    · show zv 3 236 0 _ _ _ = _
      rw [b236_0, q_shn (fun w => hx w.1)]
      simp only [Option.bind_some, Option.toList_some, Option.toList_none, List.cons_append, List.nil_append]
      rw [b236_5, if_pos rfl, b236_8]
end R34H
