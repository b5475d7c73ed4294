/-! THE CLASS: a whole text -/
section R33J
variable {h : zi_Hp} {a p A K F : Nat → Int32} {b : Bool} {t n : Nat}
theorem sl_4 {k : Nat} (hk : 1 ≤ k ∧ k < 5) : zi_sl k ≤ 4 := by
  have : k = 1 ∨ k = 2 ∨ k = 3 ∨ k = 4 := by omega
  rcases this with rfl | rfl | rfl | rfl <;> decide
theorem s_nm (S : Sh h) {k : Nat} (hk : 1 ≤ k ∧ k < 5) {u : Value} : ∃ v : Bool, zv 2 32 0 [.ref 197, .retAddr k, u] [] (zS h a p A K F b) = some (some (.int (zi_bI v)), zS h a p A K F b) := by
  have h4 := sl_4 hk
  have lp : ∀ d i, i + d = zi_sl k → ∃ v : Bool, zv 2 32 28 [.ref 197, .retAddr k, .int (nI i)] [] (zS h a p A K F b) = some (some (.int (zi_bI v)), zS h a p A K F b) := by
    intro d
    induction d with
    | zero =>
      intro i hi
      have e : i = zi_sl k := by omega
      refine ⟨true, ?_⟩
      rw [b32_28 hk, if_neg (by rw [e]; exact Int32.lt_irrefl), b32_62]; rfl
    | succ d ih =>
      intro i hi
      obtain ⟨v, ev⟩ := s_by S (a := a) (p := p) (A := A) (K := K) (F := F) (b := b) (a 3 + nI i)
      have nc : (nI i).toNatClampNeg = i := nI_clamp (by omega)
      rw [b32_28 hk, if_pos (show nI i < Int32.ofNat (zi_sl k) from nI_lt (b := zi_sl k) (by omega) (by omega)), b32_36 (s_g0 S) (s_g1 S), zS_7, ev]
      simp only [Option.bind_some, Option.toList_some, Option.toList_none, List.cons_append, List.nil_append]
      rw [b32_46 hk (zj_n (by omega) (by omega))]
      split
      · rw [b32_56, nI_s]; exact ih (i + 1) (by omega)
      · rw [b32_54]; exact ⟨false, rfl⟩
  rw [b32_0 (s_g0 S) (s_g1 S)]
  split
  · rw [b32_8 (s_g0 S) (s_g1 S) hk]
    split
    · rw [b32_26]; exact lp (zi_sl k) 0 (Nat.zero_add _)
    · rw [b32_24]; exact ⟨false, rfl⟩
  · rw [b32_24]; exact ⟨false, rfl⟩
theorem s_ky (S : Sh h) (T : TS a t) (P : PP p A K F) {act : Nat} (ha : act ≤ 2) {u : Value} : ZB h t (zv 4 16 0 [.ref 199, .ref 197, .int (nI act), u] [] (zS h a p A K F b)) := by
  obtain ⟨a', e, T'⟩ := T.sc S (p := p) (A := A) (K := K) (F := F) (b := b) (u := .double 0)
  rw [b16_0 (s_g0 S) (s_g1 S), e]
  simp only [Option.bind_some, Option.toList_some, Option.toList_none, List.cons_append, List.nil_append]
  rw [b16_4]
  exact s_kl S ha 41 0 rfl T' P
theorem s_li (S : Sh h) (T : TS a t) (P : PP p A K F) : ZB h t (zv 6 14 0 [.ref 199, .ref 197] [] (zS h a p A K F b)) := by
  obtain ⟨v1, e1⟩ := s_nm S (a := a) (p := p) (A := A) (K := K) (F := F) (b := b) (k := 1) (by decide) (u := .double 0)
  obtain ⟨v2, e2⟩ := s_nm S (a := a) (p := p) (A := A) (K := K) (F := F) (b := b) (k := 2) (by decide) (u := .double 0)
  obtain ⟨v3, e3⟩ := s_nm S (a := a) (p := p) (A := A) (K := K) (F := F) (b := b) (k := 3) (by decide) (u := .double 0)
  obtain ⟨v4, e4⟩ := s_nm S (a := a) (p := p) (A := A) (K := K) (F := F) (b := b) (k := 4) (by decide) (u := .double 0)
  rw [b14_0 (s_g0 S) (s_g1 S), e1]
  simp only [Option.bind_some, Option.toList_some, Option.toList_none, List.cons_append, List.nil_append]
  rw [b14_6]
  cases v1 with
  | true =>
    obtain ⟨v, m, e, Z⟩ := s_ro S (b := b) T P
    rw [zi_bI_t, if_neg (by decide), b14_9 (s_g2 S) (s_g3 S), e]
    simp only [Option.bind_some, Option.toList_some, Option.toList_none, List.cons_append, List.nil_append]
    exact ⟨v, m, by rw [b14_14 (zi_bI_01 v)], Z⟩
  | false =>
    rw [zi_bI_f, if_pos rfl, b14_15 (s_g0 S) (s_g1 S), e2]
    simp only [Option.bind_some, Option.toList_some, Option.toList_none, List.cons_append, List.nil_append]
    rw [b14_21]
    cases v2 with
    | true =>
      obtain ⟨v, m, e, Z⟩ := s_ky S (b := b) T P (act := 1) (by decide) (u := .double 0)
      have e' : zv 4 16 0 [.ref 199, .ref 197, .int 1, .double 0] [] (zS h a p A K F b) = some (some (.int (zi_bI v)), m) := e
      rw [zi_bI_t, if_neg (by decide), b14_24 (s_g2 S) (s_g3 S), e']
      simp only [Option.bind_some, Option.toList_some, Option.toList_none, List.cons_append, List.nil_append]
      exact ⟨v, m, by rw [b14_30 (zi_bI_01 v)], Z⟩
    | false =>
      rw [zi_bI_f, if_pos rfl, b14_31 (s_g0 S) (s_g1 S), e3]
      simp only [Option.bind_some, Option.toList_some, Option.toList_none, List.cons_append, List.nil_append]
      rw [b14_37]
      cases v3 with
      | true =>
        obtain ⟨v, m, e, Z⟩ := s_ky S (b := b) T P (act := 2) (by decide) (u := .double 0)
        have e' : zv 4 16 0 [.ref 199, .ref 197, .int 2, .double 0] [] (zS h a p A K F b) = some (some (.int (zi_bI v)), m) := e
        rw [zi_bI_t, if_neg (by decide), b14_40 (s_g2 S) (s_g3 S), e']
        simp only [Option.bind_some, Option.toList_some, Option.toList_none, List.cons_append, List.nil_append]
        exact ⟨v, m, by rw [b14_46 (zi_bI_01 v)], Z⟩
      | false =>
        rw [zi_bI_f, if_pos rfl, b14_47 (s_g0 S) (s_g1 S), e4]
        simp only [Option.bind_some, Option.toList_some, Option.toList_none, List.cons_append, List.nil_append]
        rw [b14_53]
        cases v4 with
        | true =>
          obtain ⟨v, m, e, Z⟩ := s_fd S (b := b) T P (u := .double 0)
          rw [zi_bI_t, if_neg (by decide), b14_56 (s_g2 S) (s_g3 S), e]
          simp only [Option.bind_some, Option.toList_some, Option.toList_none, List.cons_append, List.nil_append]
          exact ⟨v, m, by rw [b14_61 (zi_bI_01 v)], Z⟩
        | false =>
          have bad : ∀ {w : Int32}, ZB h t (zv 6 14 76 [.ref 199, .ref 197] [.int w, .ref 197, .ref 199] (zS h a p A K F b)) := fun {w} => by
            obtain ⟨v, m, e, Z⟩ := s_ref S (b := b) T P (w := w)
            rw [b14_76 (s_g2 S) (s_g3 S), e]
            simp only [Option.bind_some, Option.toList_some, Option.toList_none, List.cons_append, List.nil_append]
            exact ⟨v, m, by rw [b14_79 (zi_bI_01 v)], Z⟩
          rw [zi_bI_f, if_pos rfl, b14_62 (s_g0 S) (s_g1 S)]
          split
          · rw [b14_71]; exact bad
          · rw [b14_75]; exact bad
/-- lines until the end -/
theorem s_pl (S : Sh h) : ∀ d i, i + d = 160 → ∀ {a p A K F : Nat → Int32} {b : Bool}, TS a t → PP p A K F → ∃ m, zv 7 13 49 [.ref 199, .ref 197, .int (nI i)] [] (zS h a p A K F b) = some (none, m) ∧ ZI h t m
  | 0, i, hi, a, p, A, K, F, b, T, P => by
    have e : i = 160 := by omega
    subst e
    exact ⟨_, by rw [b13_49, if_neg (by decide), b13_93], a, p, A, K, F, b, rfl, T, P⟩
  | d + 1, i, hi, a, p, A, K, F, b, T, P => by
    rw [b13_49, if_pos (show nI i < 160 from nI_lt (b := 160) (by omega) (by decide)), b13_56 (s_g0 S) (s_g1 S), zS_7]
    by_cases q : a 2 = 1
    · exact ⟨_, by rw [if_pos q, b13_93], a, p, A, K, F, b, rfl, T, P⟩
    · obtain ⟨v, m, e, a2, p2, A2, K2, F2, b2, rfl, T2, P2⟩ := s_li S (b := b) T P
      rw [if_neg q, b13_64 (s_g2 S) (s_g3 S), e]
      simp only [Option.bind_some, Option.toList_some, Option.toList_none, List.cons_append, List.nil_append]
      rw [b13_69]
      cases v with
      | false => exact ⟨_, by rw [zi_bI_f, if_pos rfl, b13_72], a2, p2, A2, K2, F2, b2, rfl, T2, P2⟩
      | true =>
        obtain ⟨a3, e3, T3⟩ := T2.sc S (p := up p2 0 (p2 0 + 1)) (A := A2) (K := K2) (F := F2) (b := b2) (u := .double 0)
        rw [zi_bI_t, if_neg (by decide), b13_73 (s_g2 S) (s_g3 S) (s_g0 S) (s_g1 S), zS_9, zS_w9, e3]
        simp only [Option.bind_some, Option.toList_some, Option.toList_none, List.cons_append, List.nil_append]
        rw [b13_87, nI_s]
        exact s_pl S d (i + 1) (by omega) T3 (P2.u (by decide) (by decide))
theorem GO.zS (O : GO h) : GO (zS h a p A K F b) := O.of (zS_S O.1) (fun W V o j ho => by
  have := V.l2
  exact ⟨zS_o _ (by omega) (by omega) (by omega) (by omega) (by omega), zS_bo _ (by omega)⟩)
theorem Fy.zS : Fy h (zS h a p A K F b) := ⟨⟨fun c j hc => ⟨zS_o _ (by omega) (by omega) (by omega) (by omega) (by omega), zS_bo _ (by omega), rfl⟩, rfl, rfl⟩, fun k => ⟨zS_o _ (by decide) (by decide) (by decide) (by decide) (by decide), zS_o _ (by decide) (by decide) (by decide) (by decide) (by decide)⟩⟩
theorem s_pa (O : GO h) (ht : t ≤ 160) (et : zh_i h 197 1 = nI t) {u : Value} : ∃ h1 m, zv 7 13 0 [.ref 199, .ref 197, u] [] h = some (none, m) ∧ GO h1 ∧ Fc h h1 ∧ ZI h1 t m := by
  obtain ⟨S, -⟩ := id O
  have k9 : zh_k h 199 = (1, 9) := by rw [S.k, kx_199]
  have r7 : zh_r h 199 7 = .ref 202 := by rw [S.r, rx_199_7]
  have n9 : (199 : Nat) < zh_n h := by rw [S.n]; decide
  obtain ⟨h0, eh0⟩ : ∃ h0, h0 = zh_wi (zh_wi (zh_wi (zh_wb (zh_wi (zh_wi h 199 0 0) 199 1 3) 199 8 false) 199 2 0) 199 3 0) 199 4 0 := ⟨_, rfl⟩
  have O0 : GO h0 := by
    rw [eh0]; exact ((((((O.wi (wo_p (by decide))).wi (wo_p (by decide))).wb (wo_p (by decide))).wi (wo_p (by decide))).wi (wo_p (by decide))).wi (wo_p (by decide)))
  have F0 : Fc h h0 := by
    rw [eh0]
    exact (((((Fc.wi (by decide)).trans (Fc.wi (by decide))).trans (Fc.wb (by decide))).trans (Fc.wi (by decide))).trans (Fc.wi (by decide))).trans (Fc.wi (by decide))
  obtain ⟨S0, -⟩ := id O0
  obtain ⟨h1, e1, O1, F1, g1, -, w1⟩ := fill_g (a := 202) (n := 3) (v := -4) (by decide) (by decide) 3 0 rfl O0 (by rw [S0.k, kx_202]) (by rw [S0.n]; decide)
  have e1' : zv 1 241 0 [.ref 202, .int (-4), .double 0, .double 0] [] h0 = some (none, h1) := by
    rw [b241_0 (by rw [S0.k, kx_202]; decide) (by rw [S0.n]; decide), S0.k, kx_202]; exact e1
  obtain ⟨S1, -⟩ := id O1
  have p1 : zh_i h1 199 1 = nI 3 := by
    rw [g1 _ _ (by decide), eh0, hp_i_wi, if_neg (by decide), hp_i_wi, if_neg (by decide), hp_i_wi, if_neg (by decide), hp_i_wb, hp_i_wi, if_pos ⟨rfl, rfl⟩]; rfl
  have p2 : zh_i h1 199 2 = nI 0 := by
    rw [g1 _ _ (by decide), eh0, hp_i_wi, if_neg (by decide), hp_i_wi, if_neg (by decide), hp_i_wi, if_pos ⟨rfl, rfl⟩]; rfl
  have P1 : PP (zh_i h1 199) (zh_i h1 200) (zh_i h1 201) (zh_i h1 202) := ⟨⟨3, p1, by decide, by decide⟩, ⟨0, p2, by decide, fun i hi => absurd hi (Nat.not_lt_zero _)⟩, fun c hc => Or.inl (by rw [w1 c (Nat.zero_le _) hc]; decide)⟩
  have T1 : TJ (up (zh_i h1 197) 5 (nI 0)) t 0 := ⟨ht, by rw [up_n _ _ (by decide), (F0.trans F1).2]; exact et, Nat.zero_le _, up_s _ _ _⟩
  obtain ⟨a2, e2, T2⟩ := s_sc S1 (p := zh_i h1 199) (A := zh_i h1 200) (K := zh_i h1 201) (F := zh_i h1 202) (b := zh_b h1 199 8) t 0 _ (Nat.zero_add _) T1 (u := .double 0)
  obtain ⟨m, e3, Z3⟩ := s_pl S1 160 0 rfl (b := zh_b h1 199 8) T2 P1
  have ew : zh_wi h1 197 5 0 = zS h1 (up (zh_i h1 197) 5 (nI 0)) (zh_i h1 199) (zh_i h1 200) (zh_i h1 201) (zh_i h1 202) (zh_b h1 199 8) := by
    have q := zS_w7 (h := h1) (a := zh_i h1 197) (p := zh_i h1 199) (A := zh_i h1 200) (K := zh_i h1 201) (F := zh_i h1 202) (b := zh_b h1 199 8) 5 0
    rw [zS_id] at q; exact q
  have e29 : zv 1 29 0 [.ref 197] [] h1 = some (none, zh_wi h1 197 5 0) := by rw [b29_0 (by rw [S1.n]; decide) (by rw [S1.k, kx_197])]
  have e3' : zv 7 13 49 [.ref 199, .ref 197, .int 0] [] (zS h1 a2 (zh_i h1 199) (zh_i h1 200) (zh_i h1 201) (zh_i h1 202) (zh_b h1 199 8)) = some (none, m) := e3
  refine ⟨h1, m, ?_, O1, F0.trans F1, Z3⟩
  have go : zv 7 13 0 [.ref 199, .ref 197, u] [] h = (zv 1 241 0 [.ref 202, .int (-4), .double 0, .double 0] [] h0).bind fun r => zv 7 13 39 [.ref 199, .ref 197, u] (r.1.toList ++ []) r.2 := by
    simp +decide only [b13_0, S.n, S.k, S.r, hp_n_wi, hp_k_wi, hp_r_wi, hp_n_wl, hp_k_wl, hp_r_wl, hp_n_wb, hp_k_wb, hp_r_wb, zq_rf, kx_0, kx_1, kx_2, kx_3, kx_4, kx_5, kx_6, kx_7, kx_8, kx_9, kx_10, kx_11, kx_12, kx_13, kx_14, kx_15, kx_16, kx_17, kx_33, kx_34, kx_50, kx_66, kx_67, kx_68, kx_69, kx_197, kx_198, kx_199, kx_200, kx_201, kx_202, kx_203, kx_204, kx_205, kx_206, kx_207, kx_208, kx_209, kx_210, rx_0_0, rx_0_1, rx_0_2, rx_0_3, rx_0_4, rx_0_5, rx_0_6, rx_0_7, rx_1_0, rx_1_1, rx_2_3, rx_2_4, rx_2_5, rx_2_6, rx_2_7, rx_2_8, rx_2_9, rx_10_0, rx_10_1, rx_10_2, rx_33_0, rx_33_1, rx_67_0, rx_68_0, rx_197_0, rx_199_5, rx_199_6, rx_199_7, rx_203_0, rx_203_1, rx_203_2, rx_206_0, rx_206_1, rx_206_2, rx_206_3, Option.bind_some, Option.toList_some, Option.toList_none, List.cons_append, List.nil_append, ↓reduceIte]
    rw [← eh0]
  rw [go, e1']
  simp only [Option.bind_some, Option.toList_some, Option.toList_none, List.cons_append, List.nil_append]
  rw [b13_39 (by rw [S1.n]; decide) (by rw [S1.k, kx_197]), e29]
  simp only [Option.bind_some, Option.toList_some, Option.toList_none, List.cons_append, List.nil_append]
  rw [ew, b13_43 (s_g0 S1) (s_g1 S1), e2]
  simp only [Option.bind_some, Option.toList_some, Option.toList_none, List.cons_append, List.nil_append]
  rw [b13_47, e3']
theorem c_text (O : GO h) (ht : t ≤ 160) (et : zh_i h 197 1 = nI t) : ∃ v h', zv 8 107 0 [.ref 0] [] h = some (some (.int v), h') ∧ GO h' ∧ Fy h h' ∧ zh_i h' 197 1 = 0 := by
  obtain ⟨S, -⟩ := id O
  obtain ⟨h1, m, e1, O1, F1, a, p, A, K, F, b, rfl, T, P⟩ := s_pa O ht et (u := .double 0)
  obtain ⟨S1, -⟩ := id O1
  obtain ⟨h2, eh2⟩ : ∃ h2, h2 = zS h1 (up a 1 0) p A K F b := ⟨_, rfl⟩
  have O2 : GO h2 := by rw [eh2]; exact O1.zS
  have F2 : Fy h h2 := by rw [eh2]; exact F1.1.trans Fy.zS
  have l2 : zh_i h2 197 1 = 0 := by rw [eh2, zS_7, up_s]
  have ew : zh_wi (zS h1 a p A K F b) 197 1 0 = h2 := by rw [eh2, zS_w7]
  have O1' : GO (zS h1 a p A K F b) := O1.zS
  have go : zv 8 107 0 [.ref 0] [] h = zv 8 107 23 [.ref 0] [.ref 199] h2 := by
    have g1 : zv 8 107 0 [.ref 0] [] h = zv 8 107 11 [.ref 0] [] (zS h1 a p A K F b) := by
      simp +decide only [b107_0, S.n, S.k, S.r, hp_n_wi, hp_k_wi, hp_r_wi, hp_n_wl, hp_k_wl, hp_r_wl, hp_n_wb, hp_k_wb, hp_r_wb, zq_rf, kx_0, kx_1, kx_2, kx_3, kx_4, kx_5, kx_6, kx_7, kx_8, kx_9, kx_10, kx_11, kx_12, kx_13, kx_14, kx_15, kx_16, kx_17, kx_33, kx_34, kx_50, kx_66, kx_67, kx_68, kx_69, kx_197, kx_198, kx_199, kx_200, kx_201, kx_202, kx_203, kx_204, kx_205, kx_206, kx_207, kx_208, kx_209, kx_210, rx_0_0, rx_0_1, rx_0_2, rx_0_3, rx_0_4, rx_0_5, rx_0_6, rx_0_7, rx_1_0, rx_1_1, rx_2_3, rx_2_4, rx_2_5, rx_2_6, rx_2_7, rx_2_8, rx_2_9, rx_10_0, rx_10_1, rx_10_2, rx_33_0, rx_33_1, rx_67_0, rx_68_0, rx_197_0, rx_199_5, rx_199_6, rx_199_7, rx_203_0, rx_203_1, rx_203_2, rx_206_0, rx_206_1, rx_206_2, rx_206_3, Option.bind_some, Option.toList_some, Option.toList_none, List.cons_append, List.nil_append, ↓reduceIte, e1]
    rw [g1]
    have S := O1'.1
    simp +decide only [b107_11, S.n, S.k, S.r, hp_n_wi, hp_k_wi, hp_r_wi, hp_n_wl, hp_k_wl, hp_r_wl, hp_n_wb, hp_k_wb, hp_r_wb, zq_rf, kx_0, kx_1, kx_2, kx_3, kx_4, kx_5, kx_6, kx_7, kx_8, kx_9, kx_10, kx_11, kx_12, kx_13, kx_14, kx_15, kx_16, kx_17, kx_33, kx_34, kx_50, kx_66, kx_67, kx_68, kx_69, kx_197, kx_198, kx_199, kx_200, kx_201, kx_202, kx_203, kx_204, kx_205, kx_206, kx_207, kx_208, kx_209, kx_210, rx_0_0, rx_0_1, rx_0_2, rx_0_3, rx_0_4, rx_0_5, rx_0_6, rx_0_7, rx_1_0, rx_1_1, rx_2_3, rx_2_4, rx_2_5, rx_2_6, rx_2_7, rx_2_8, rx_2_9, rx_10_0, rx_10_1, rx_10_2, rx_33_0, rx_33_1, rx_67_0, rx_68_0, rx_197_0, rx_199_5, rx_199_6, rx_199_7, rx_203_0, rx_203_1, rx_203_2, rx_206_0, rx_206_1, rx_206_2, rx_206_3, Option.bind_some, Option.toList_some, Option.toList_none, List.cons_append, List.nil_append, ↓reduceIte]
    rw [ew]
  rw [go]
  obtain ⟨S2, G2⟩ := id O2
  have go2 : zv 8 107 23 [.ref 0] [.ref 199] h2 = if zh_i h2 199 3 = 0 then zv 8 107 40 [.ref 0] [] h2 else zv 8 107 29 [.ref 0] [] h2 := by
    have S := S2
    simp +decide only [b107_23, S.n, S.k, S.r, hp_n_wi, hp_k_wi, hp_r_wi, hp_n_wl, hp_k_wl, hp_r_wl, hp_n_wb, hp_k_wb, hp_r_wb, zq_rf, kx_0, kx_1, kx_2, kx_3, kx_4, kx_5, kx_6, kx_7, kx_8, kx_9, kx_10, kx_11, kx_12, kx_13, kx_14, kx_15, kx_16, kx_17, kx_33, kx_34, kx_50, kx_66, kx_67, kx_68, kx_69, kx_197, kx_198, kx_199, kx_200, kx_201, kx_202, kx_203, kx_204, kx_205, kx_206, kx_207, kx_208, kx_209, kx_210, rx_0_0, rx_0_1, rx_0_2, rx_0_3, rx_0_4, rx_0_5, rx_0_6, rx_0_7, rx_1_0, rx_1_1, rx_2_3, rx_2_4, rx_2_5, rx_2_6, rx_2_7, rx_2_8, rx_2_9, rx_10_0, rx_10_1, rx_10_2, rx_33_0, rx_33_1, rx_67_0, rx_68_0, rx_197_0, rx_199_5, rx_199_6, rx_199_7, rx_203_0, rx_203_1, rx_203_2, rx_206_0, rx_206_1, rx_206_2, rx_206_3, Option.bind_some, Option.toList_some, Option.toList_none, List.cons_append, List.nil_append, ↓reduceIte]
  rw [go2]
  by_cases q : zh_i h2 199 3 = 0
  · have PS2 : PS h2 := by
      rw [eh2]
      obtain ⟨⟨v, ev, v2, v4⟩, ⟨k, ek, hk, hi⟩, hf⟩ := P
      exact ⟨⟨v, by rw [zS_9]; exact ev, v2, v4⟩, ⟨k, by rw [zS_9]; exact ek, hk, fun i hi2 => by rw [zS_A, zS_K]; exact hi i hi2⟩, fun c hc => by rw [zS_F]; exact hf c hc⟩
    obtain ⟨x', y', e3, G3⟩ := k_pf S2 V1 PS2 (x := wx h2 1) (y := wy h2 1) (u2' := .double 0)
    rw [zC_wx] at e3
    have O3 : GO (zC h2 1 x' y') := O2.zC V1 G3
    obtain ⟨h3, eh3⟩ : ∃ h3, h3 = zC h2 1 x' y' := ⟨_, rfl⟩
    rw [← eh3] at e3 O3
    have F3 : Fc h2 h3 := by rw [eh3]; exact Fc.zC V1
    have g3 : zv 8 107 40 [.ref 0] [] h2 = zv 8 107 51 [.ref 0] [] h3 := by
      have S := S2
      simp +decide only [b107_40, S.n, S.k, S.r, hp_n_wi, hp_k_wi, hp_r_wi, hp_n_wl, hp_k_wl, hp_r_wl, hp_n_wb, hp_k_wb, hp_r_wb, zq_rf, kx_0, kx_1, kx_2, kx_3, kx_4, kx_5, kx_6, kx_7, kx_8, kx_9, kx_10, kx_11, kx_12, kx_13, kx_14, kx_15, kx_16, kx_17, kx_33, kx_34, kx_50, kx_66, kx_67, kx_68, kx_69, kx_197, kx_198, kx_199, kx_200, kx_201, kx_202, kx_203, kx_204, kx_205, kx_206, kx_207, kx_208, kx_209, kx_210, rx_0_0, rx_0_1, rx_0_2, rx_0_3, rx_0_4, rx_0_5, rx_0_6, rx_0_7, rx_1_0, rx_1_1, rx_2_3, rx_2_4, rx_2_5, rx_2_6, rx_2_7, rx_2_8, rx_2_9, rx_10_0, rx_10_1, rx_10_2, rx_33_0, rx_33_1, rx_67_0, rx_68_0, rx_197_0, rx_199_5, rx_199_6, rx_199_7, rx_203_0, rx_203_1, rx_203_2, rx_206_0, rx_206_1, rx_206_2, rx_206_3, Option.bind_some, Option.toList_some, Option.toList_none, List.cons_append, List.nil_append, ↓reduceIte, e3]
    have O4 : GO (zh_wb (zh_wb h3 66 0 false) 66 1 false) := (O3.wb wo_66).wb wo_66
    have F4 : Fc h3 (zh_wb (zh_wb h3 66 0 false) 66 1 false) := (Fc.wb (by decide)).trans (Fc.wb (by decide))
    have g4 : ∃ v, zv 8 107 51 [.ref 0] [] h3 = some (some (.int v), zh_wb (zh_wb h3 66 0 false) 66 1 false) := by
      have S := O3.1
      simp +decide only [b107_51, b107_69, S.n, S.k, S.r, hp_n_wi, hp_k_wi, hp_r_wi, hp_n_wl, hp_k_wl, hp_r_wl, hp_n_wb, hp_k_wb, hp_r_wb, zq_rf, kx_0, kx_1, kx_2, kx_3, kx_4, kx_5, kx_6, kx_7, kx_8, kx_9, kx_10, kx_11, kx_12, kx_13, kx_14, kx_15, kx_16, kx_17, kx_33, kx_34, kx_50, kx_66, kx_67, kx_68, kx_69, kx_197, kx_198, kx_199, kx_200, kx_201, kx_202, kx_203, kx_204, kx_205, kx_206, kx_207, kx_208, kx_209, kx_210, rx_0_0, rx_0_1, rx_0_2, rx_0_3, rx_0_4, rx_0_5, rx_0_6, rx_0_7, rx_1_0, rx_1_1, rx_2_3, rx_2_4, rx_2_5, rx_2_6, rx_2_7, rx_2_8, rx_2_9, rx_10_0, rx_10_1, rx_10_2, rx_33_0, rx_33_1, rx_67_0, rx_68_0, rx_197_0, rx_199_5, rx_199_6, rx_199_7, rx_203_0, rx_203_1, rx_203_2, rx_206_0, rx_206_1, rx_206_2, rx_206_3, Option.bind_some, Option.toList_some, Option.toList_none, List.cons_append, List.nil_append, ↓reduceIte]
      exact ⟨_, rfl⟩
    obtain ⟨v, e4⟩ := g4
    exact ⟨v, _, by rw [if_pos q, g3, e4], O4, (F2.trans F3.1).trans F4.1, (F4.2.trans F3.2).trans l2⟩
  · have g3 : ∃ v, zv 8 107 29 [.ref 0] [] h2 = some (some (.int v), h2) := by
      have S := S2
      simp +decide only [b107_29, S.n, S.k, S.r, hp_n_wi, hp_k_wi, hp_r_wi, hp_n_wl, hp_k_wl, hp_r_wl, hp_n_wb, hp_k_wb, hp_r_wb, zq_rf, kx_0, kx_1, kx_2, kx_3, kx_4, kx_5, kx_6, kx_7, kx_8, kx_9, kx_10, kx_11, kx_12, kx_13, kx_14, kx_15, kx_16, kx_17, kx_33, kx_34, kx_50, kx_66, kx_67, kx_68, kx_69, kx_197, kx_198, kx_199, kx_200, kx_201, kx_202, kx_203, kx_204, kx_205, kx_206, kx_207, kx_208, kx_209, kx_210, rx_0_0, rx_0_1, rx_0_2, rx_0_3, rx_0_4, rx_0_5, rx_0_6, rx_0_7, rx_1_0, rx_1_1, rx_2_3, rx_2_4, rx_2_5, rx_2_6, rx_2_7, rx_2_8, rx_2_9, rx_10_0, rx_10_1, rx_10_2, rx_33_0, rx_33_1, rx_67_0, rx_68_0, rx_197_0, rx_199_5, rx_199_6, rx_199_7, rx_203_0, rx_203_1, rx_203_2, rx_206_0, rx_206_1, rx_206_2, rx_206_3, Option.bind_some, Option.toList_some, Option.toList_none, List.cons_append, List.nil_append, ↓reduceIte]
      exact ⟨_, rfl⟩
    obtain ⟨v, e4⟩ := g3
    exact ⟨v, h2, by rw [if_neg q, e4], O2, F2, l2⟩
end R33J
