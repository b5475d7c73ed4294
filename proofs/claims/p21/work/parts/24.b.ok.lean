/-! THE REFERENCE's memory, all that always holds of it -/
/-- cells of the program, and the script, are as they were -/
def Fx0 (h h' : zi_Hp) : Prop := (∀ a j, a < 211 → zh_i h' a j = zh_i h a j ∧ zh_b h' a j = zh_b h a j ∧ zh_l h' a j = zh_l h a j) ∧ zh_L h' = zh_L h ∧ zh_x h' = zh_x h
theorem Fx0.refl (h : zi_Hp) : Fx0 h h := ⟨fun _ _ _ => ⟨rfl, rfl, rfl⟩, rfl, rfl⟩
theorem Fx0.trans {a b c : zi_Hp} (p : Fx0 a b) (q : Fx0 b c) : Fx0 a c := ⟨fun x j hx => ⟨(q.1 x j hx).1.trans (p.1 x j hx).1, (q.1 x j hx).2.1.trans (p.1 x j hx).2.1, (q.1 x j hx).2.2.trans (p.1 x j hx).2.2⟩, q.2.1.trans p.2.1, q.2.2.trans p.2.2⟩
theorem Fx0.wi {h : zi_Hp} {a k : Nat} {v : Int32} (ha : 211 ≤ a) : Fx0 h (zh_wi h a k v) := ⟨fun x j hx => ⟨by rw [hp_i_wi, if_neg (by omega)], rfl, rfl⟩, rfl, rfl⟩
/-- lanes and lengths of the sheets stay too -/
def Fx (h h' : zi_Hp) : Prop := Fx0 h h' ∧ ∀ k, zh_i h' 230 k = zh_i h 230 k ∧ zh_i h' 231 k = zh_i h 231 k
theorem Fx.refl (h : zi_Hp) : Fx h h := ⟨Fx0.refl h, fun _ => ⟨rfl, rfl⟩⟩
theorem Fx.trans {a b c : zi_Hp} (p : Fx a b) (q : Fx b c) : Fx a c := ⟨p.1.trans q.1, fun k => ⟨(q.2 k).1.trans (p.2 k).1, (q.2 k).2.trans (p.2 k).2⟩⟩
theorem Fx.wi {h : zi_Hp} {a k : Nat} {v : Int32} (ha : 211 ≤ a) (hk : a ≠ 230 ∧ a ≠ 231 := by omega) : Fx h (zh_wi h a k v) := ⟨Fx0.wi ha, fun j => ⟨by rw [hp_i_wi, if_neg (by omega)], by rw [hp_i_wi, if_neg (by omega)]⟩⟩
/-- and the length of the text -/
def Fr (h h' : zi_Hp) : Prop := Fx h h' ∧ zh_i h' 211 8 = zh_i h 211 8
theorem Fr.refl (h : zi_Hp) : Fr h h := ⟨Fx.refl h, rfl⟩
theorem Fr.trans {a b c : zi_Hp} (p : Fr a b) (q : Fr b c) : Fr a c := ⟨p.1.trans q.1, q.2.trans p.2⟩
theorem Fr.wi {h : zi_Hp} {a k : Nat} {v : Int32} (ha : 211 ≤ a) (hk : (a ≠ 211 ∨ k ≠ 8) ∧ a ≠ 230 ∧ a ≠ 231 := by omega) : Fr h (zh_wi h a k v) := ⟨Fx.wi ha, by rw [hp_i_wi, if_neg (by omega)]⟩
theorem Fr.wb {h : zi_Hp} {a k : Nat} {v : Bool} (ha : 211 ≤ a) : Fr h (zh_wb h a k v) := ⟨⟨⟨fun x j hx => ⟨rfl, by rw [hp_b_wb, if_neg (by omega)], rfl⟩, rfl, rfl⟩, fun _ => ⟨rfl, rfl⟩⟩, rfl⟩
theorem Fr.wl {h : zi_Hp} {a k : Nat} {v : Int64} (ha : 211 ≤ a) : Fr h (zh_wl h a k v) := ⟨⟨⟨fun x j hx => ⟨rfl, rfl, by rw [hp_l_wl, if_neg (by omega)]⟩, rfl, rfl⟩, fun _ => ⟨rfl, rfl⟩⟩, rfl⟩
theorem Fr.ci {h : zi_Hp} {a b c d e : Nat} (ha : 211 ≤ c) (hc : c ≠ 211 ∧ c ≠ 230 ∧ c ≠ 231 := by omega) : Fr h (zh_ci h a b c d e) := ⟨⟨⟨fun x j hx => ⟨by rw [hp_i_ci, if_neg (by omega)], rfl, rfl⟩, rfl, rfl⟩, fun k => ⟨by rw [hp_i_ci, if_neg (by omega)], by rw [hp_i_ci, if_neg (by omega)]⟩⟩, by rw [hp_i_ci, if_neg (by omega)]⟩
theorem Fr.zQ {h : zi_Hp} {q : zQs} {s : Nat → Int32} : Fr h (zQ h q s) := ⟨⟨⟨fun x j hx => ⟨zQ_o j (by omega) (by omega) (by omega) (by omega), zQ_bo j (by omega), rfl⟩, rfl, rfl⟩, fun k => ⟨zQ_o k (by decide) (by decide) (by decide) (by decide), zQ_o k (by decide) (by decide) (by decide) (by decide)⟩⟩, zQ_211 (by decide)⟩
def RK (h : zi_Hp) : Prop := (∃ t, t ≤ 160 ∧ zh_i h 211 8 = nI t) ∧ (∀ k, k < 2 → zh_b h 214 k = true → Inv (fun j => zh_i h 213 (387 * k + j))) ∧ (∀ k, k < 4 → ∃ z, z ≤ 40 ∧ zh_i h 231 k = nI z)
def RO (h : zi_Hp) : Prop := Sh h ∧ Inv (zh_i h 212) ∧ RK h
def RC (h : zi_Hp) (o : Option zi_Rt) : Prop := ∃ x h', o = some (some (.int x), h') ∧ RO h' ∧ Fr h h'
/-- of cells that RK looks at -/
theorem RK.same {h h' : zi_Hp} (k : RK h) (e1 : zh_i h' 211 8 = zh_i h 211 8) (e2 : ∀ j, zh_i h' 213 j = zh_i h 213 j) (e3 : ∀ j, zh_b h' 214 j = zh_b h 214 j) (e4 : ∀ j, zh_i h' 231 j = zh_i h 231 j) : RK h' := by
  obtain ⟨k1, k2, k3⟩ := k
  refine ⟨by rw [e1]; exact k1, fun k hk hb => ?_, fun k hk => by rw [e4]; exact k3 k hk⟩
  rw [e3] at hb
  have : (fun j => zh_i h' 213 (387 * k + j)) = fun j => zh_i h 213 (387 * k + j) := funext fun j => e2 _
  rw [this]
  exact k2 k hk hb
theorem RK.zQ {h : zi_Hp} {q : zQs} {s : Nat → Int32} (k : RK h) : RK (zQ h q s) := k.same (zQ_211 (by decide)) (fun j => zQ_o j (by decide) (by decide) (by decide) (by decide)) (fun j => zQ_bo j (by decide)) (fun j => zQ_o j (by decide) (by decide) (by decide) (by decide))
theorem RV.rc {h : zi_Hp} {o : Option zi_Rt} (O : RO h) (v : RV h o) : RC h o := by
  obtain ⟨x, q', s', e, J⟩ := v
  exact ⟨x, zQ h q' s', e, ⟨zQ_S O.1, J, O.2.2.zQ⟩, Fr.zQ⟩
theorem RO.self {h : zi_Hp} {k M : Nat} {ls : List Value} (p : RV h (zv k M 0 ls [] (zQ h (zh_i h 215, zh_i h 216, zh_i h 211 5, zh_b h 217) (zh_i h 212)))) : RV h (zv k M 0 ls [] h) := by
  rw [zQ_id] at p
  exact p
theorem sm_rc {h : zi_Hp} {o : Option zi_Rt} (O : RO h) (e : ∃ x, o = some (some (.int x), h)) : RC h o := by
  obtain ⟨x, e⟩ := e
  exact ⟨x, h, e, O, Fr.refl h⟩
section R24B
variable {h : zi_Hp}
theorem o_rule (O : RO h) (x : Int32) : RC h (zv 6 201 0 [.ref 211, .int x] [] h) := (RO.self (u_rule O.1 O.2.1 x)).rc O
theorem o_node (O : RO h) (x y : Int32) : RC h (zv 3 202 0 [.ref 211, .int x, .int y] [] h) := (RO.self (u_node O.1 O.2.1 x y)).rc O
theorem o_entry (O : RO h) (x y w : Int32) : RC h (zv 3 203 0 [.ref 211, .int x, .int y, .int w] [] h) := (RO.self (u_entry O.1 O.2.1 x y w)).rc O
theorem o_client (O : RO h) (x y : Int32) : RC h (zv 3 204 0 [.ref 211, .int x, .int y] [] h) := (RO.self (u_client O.1 O.2.1 x y)).rc O
theorem o_there (O : RO h) (x : Int32) : RC h (zv 4 205 0 [.ref 211, .int x] [] h) := (RO.self (u_there O.1 O.2.1 x)).rc O
theorem o_begin (O : RO h) (x y w : Int32) {u : Value} : RC h (zv 5 206 0 [.ref 211, .int x, .int y, .int w, u] [] h) := (RO.self (u_begin O.1 O.2.1 x y w)).rc O
theorem o_step (O : RO h) (x : Int32) : RC h (zv 7 207 0 [.ref 211, .int x] [] h) := (RO.self (u_step O.1 O.2.1 x)).rc O
theorem o_go (O : RO h) (x y : Int32) : RC h (zv 8 208 0 [.ref 211, .int x, .int y] [] h) := (RO.self (u_go O.1 O.2.1 x y)).rc O
theorem o_drop (O : RO h) (x : Int32) : RC h (zv 3 209 0 [.ref 211, .int x] [] h) := (RO.self (u_drop O.1 O.2.1 x)).rc O
theorem o_room (O : RO h) (x : Int32) {u : Value} : RC h (zv 2 210 0 [.ref 211, .int x, u] [] h) := (RO.self (u_room O.1 O.2.1 x)).rc O
theorem o_leaf (O : RO h) (x : Int32) {u v : Value} : RC h (zv 2 231 0 [.ref 211, .int x, u, v] [] h) := by
  have p := u_leaf (q := (zh_i h 215, zh_i h 216, zh_i h 211 5, zh_b h 217)) O.1 O.2.1 x (u2 := u) (u3 := v)
  rw [zQ_id] at p
  exact sm_rc O p
theorem o_check (O : RO h) : RC h (zv 5 230 0 [.ref 211] [] h) := by
  have p := u_check (q := (zh_i h 215, zh_i h 216, zh_i h 211 5, zh_b h 217)) O.1 O.2.1
  rw [zQ_id] at p
  exact sm_rc O p
theorem S_g0 (S : Sh h) : (211 : Nat) < zh_n h := by rw [S.n]; decide
theorem S_g1 (S : Sh h) : (zh_k h 211).1 = 8 := by rw [S.k, kx_211]
theorem o_fault (O : RO h) : RC h (zv 1 193 0 [.ref 211] [] h) := sm_rc O ⟨_, by rw [b193_0 (S_g0 O.1) (S_g1 O.1)]⟩
theorem o_torn (O : RO h) : RC h (zv 1 238 0 [.ref 211] [] h) := sm_rc O ⟨_, by rw [b238_0 (S_g0 O.1) (S_g1 O.1)]⟩
/-- what feed answers, and how long the text is then -/
def FD (x a v b : Int32) : Prop := (((0 : Int32) ≤ x ∧ x ≤ 127) ∧ a = 160 ∧ v = -3 ∧ b = a) ∨ (((0 : Int32) ≤ x ∧ x ≤ 127) ∧ ¬ a = 160 ∧ v = a + 1 ∧ b = a + 1) ∨ (¬ ((0 : Int32) ≤ x ∧ x ≤ 127) ∧ v = -1 ∧ b = a)
theorem o_feed (O : RO h) (x : Int32) : ∃ v h', zv 2 180 0 [.ref 211, .int x] [] h = some (some (.int v), h') ∧ RO h' ∧ Fx h h' ∧ FD x (zh_i h 211 8) v (zh_i h' 211 8) := by
  obtain ⟨S, J, ⟨t, ht, et⟩, k2, k3⟩ := id O
  rw [b180_0, show (0 : Int64) = (0 : Int32).toInt64 from rfl, show (127 : Int64) = (127 : Int32).toInt64 from rfl, c_inI]
  simp only [Option.bind_some, Option.toList_some, Option.toList_none, List.cons_append, List.nil_append]
  rw [b180_9]
  by_cases hx : (0 : Int32) ≤ x ∧ x ≤ 127
  · rw [if_pos hx, if_neg (by decide), b180_14 (S_g0 S) (S_g1 S), et]
    by_cases h160 : t = 160
    · rw [if_pos (by rw [h160]; rfl), b180_24]
      exact ⟨_, h, rfl, O, Fx.refl h, Or.inl ⟨hx, by rw [h160]; rfl, rfl, et⟩⟩
    · have r7 : zh_r h 211 7 = .ref 218 := by rw [S.r, rx_211_7]
      have hne : ¬ nI t = 160 := fun w => h160 ((nI_eq (a := t) (b := 160) (by omega) (by decide)).mp w)
      rw [if_neg hne, b180_27 (S_g0 S) (S_g1 S) (by rw [r7, zq_rf]) (by rw [r7, zq_rf, S.n]; decide) (by rw [r7, zq_rf, S.k, kx_218, et]; exact zj_n (by omega) (by decide)) (by rw [r7, zq_rf, S.k, kx_218]), r7, zq_rf, et, nI_clamp (by omega), b180_39 (S_g0 (S.wi 218 t x)) (S_g1 (S.wi 218 t x)) (S_g0 (S.wi 218 t x)) (S_g1 (S.wi 218 t x)), hp_i_wi, if_neg (by omega), et, nI_s, b180_48 (S_g0 ((S.wi 218 t x).wi 211 8 _)) (S_g1 ((S.wi 218 t x).wi 211 8 _))]
      have e8 : zh_i (zh_wi (zh_wi h 218 t x) 211 8 (nI (t + 1))) 211 8 = nI (t + 1) := by rw [hp_i_wi, if_pos ⟨rfl, rfl⟩]
      refine ⟨_, _, rfl, ⟨(S.wi 218 t x).wi 211 8 _, J, ⟨t + 1, by omega, e8⟩, fun k hk hb => k2 k hk hb, fun k hk => ?_⟩, (Fx.wi (by decide)).trans (Fx.wi (by decide)), Or.inr (Or.inl ⟨hx, hne, ?_, ?_⟩)⟩
      · rw [hp_i_wi, if_neg (by omega), hp_i_wi, if_neg (by omega)]; exact k3 k hk
      · rw [e8, nI_s]
      · rw [e8, nI_s]
  · rw [if_neg hx, if_pos rfl, b180_12]
    exact ⟨_, h, rfl, O, Fx.refl h, Or.inr (Or.inr ⟨hx, rfl, rfl⟩)⟩
def ED (x a v b : Int32) : Prop := (((0 : Int32) ≤ x ∧ x ≤ a) ∧ v = a ∧ b = x) ∨ (¬ ((0 : Int32) ≤ x ∧ x ≤ a) ∧ v = -1 ∧ b = a)
theorem o_end (O : RO h) (x : Int32) {u : Value} : ∃ v h', zv 2 181 0 [.ref 211, .int x, u] [] h = some (some (.int v), h') ∧ RO h' ∧ Fx h h' ∧ ED x (zh_i h 211 8) v (zh_i h' 211 8) := by
  obtain ⟨S, J, ⟨t, ht, et⟩, k2, k3⟩ := id O
  rw [b181_0 (S_g0 S) (S_g1 S), et, show (0 : Int64) = (nI 0).toInt64 from rfl]
  rcases in_or x 0 t (by omega) (by omega) with ⟨n, -, hn, rfl, hx⟩ | hx
  · rw [c_iy hx]
    simp only [Option.bind_some, Option.toList_some, Option.toList_none, List.cons_append, List.nil_append]
    rw [b181_11, if_neg (by decide), b181_16 (S_g0 S) (S_g1 S)]
    have e8 : zh_i (zh_wi h 211 8 (nI n)) 211 8 = nI n := by rw [hp_i_wi, if_pos ⟨rfl, rfl⟩]
    refine ⟨_, _, rfl, ⟨S.wi 211 8 _, J, ⟨n, by omega, e8⟩, fun k hk hb => k2 k hk hb, fun k hk => ?_⟩, Fx.wi (by decide), Or.inl ⟨hx, et, e8⟩⟩
    rw [hp_i_wi, if_neg (by omega)]; exact k3 k hk
  · rw [c_iz hx]
    simp only [Option.bind_some, Option.toList_some, Option.toList_none, List.cons_append, List.nil_append]
    rw [b181_11, if_pos rfl, b181_14]
    exact ⟨_, h, rfl, O, Fx.refl h, Or.inr ⟨hx, rfl, et⟩⟩
/-- as RC, but the text is gone -/
def RCx (h : zi_Hp) (o : Option zi_Rt) : Prop := ∃ x h', o = some (some (.int x), h') ∧ RO h' ∧ Fx h h' ∧ zh_i h' 211 8 = 0
theorem Inv.congr {s s' : Nat → Int32} (J : Inv s) (e : ∀ j, j < 387 → s' j = s j) : Inv s' := by
  obtain ⟨N, R, M, B, L, m, H, r, K, C, f, i1, ⟨i2, i3⟩, i4⟩ := J
  have ed : ∀ d, d < 3 → ∀ w, w < 24 → s' (315 + 24 * d + w) = s (315 + 24 * d + w) := fun d hd w hw => e _ (by omega)
  have ed0 : ∀ d, d < 3 → s' (315 + 24 * d) = s (315 + 24 * d) := fun d hd => e _ (by omega)
  refine ⟨N, R, M, B, L, m, H, r, K, C, f, i1.same (fun k hk => e k (by omega)), ⟨fun d hd => (i2 d hd).mono hd (ed d hd) (Nat.le_refl _) (fun b _ => ⟨rfl, Nat.le_refl _⟩) (Nat.le_refl _) (fun a _ _ _ => Nat.le_refl _), fun a b ha hb hab h1 h2 => ?_⟩, ?_⟩
  · unfold hoC at h1 h2
    rw [ed0 a ha] at h1
    rw [ed0 b hb] at h2
    rw [ed a ha 3 (by decide), ed b hb 3 (by decide)]
    exact i3 a b ha hb hab h1 h2
  · unfold InvS at *
    rw [sumN_congr (n := 3) (g := pnC s') (g' := pnC s) (fun d hd => pnC_e (ed0 d hd) (ed d hd 11 (by decide)))]
    exact i4
theorem o_keep (O : RO h) (x : Int32) {u v : Value} : RC h (zv 2 232 0 [.ref 211, .int x, u, v] [] h) := by
  obtain ⟨S, J, k1, k2, k3⟩ := id O
  rw [b232_0, show (0 : Int64) = (nI 0).toInt64 from rfl, show (1 : Int64) = (nI 1).toInt64 from rfl]
  rcases in_or x 0 1 (by decide) (by decide) with ⟨n, -, hn, rfl, hx⟩ | hx
  · have r2 : zh_r h 211 2 = .ref 214 := by rw [S.r, rx_211_2]
    have hz : ¬ (nI n < 0 ∨ 2 ≤ (nI n).toNatClampNeg) := zj_n (by omega) (by decide)
    rw [c_iy hx]
    simp only [Option.bind_some, Option.toList_some, Option.toList_none, List.cons_append, List.nil_append]
    rw [b232_7, if_neg (by decide), b232_12 (S_g0 S) (S_g1 S) (by rw [r2, zq_rf]) (by rw [r2, zq_rf, S.n]; decide) (by rw [r2, zq_rf, S.k, kx_214]; exact hz) (by rw [r2, zq_rf, S.k, kx_214]), r_flag]
    simp only [Option.bind_some, Option.toList_some, Option.toList_none, List.cons_append, List.nil_append]
    rw [b232_21 (S_g0 S) (S_g1 S) (by rw [r2, zq_rf]) (by rw [r2, zq_rf, S.n]; decide) (by rw [r2, zq_rf, S.k, kx_214]; exact hz) (by rw [r2, zq_rf, S.k, kx_214]), r2, zq_rf, nI_clamp (by omega), c_keepL (S.wb 214 n true) (by omega)]
    refine ⟨_, _, rfl, ⟨(S.wb 214 n true).ci _ _ _ _ _, J, k1, fun k hk hb => ?_, fun k hk => k3 k hk⟩, (Fr.wb (by decide)).trans (Fr.ci (by decide))⟩
    by_cases e : k = n
    · subst e
      refine J.congr (fun j hj => ?_)
      rw [hp_i_ci, if_pos ⟨rfl, by omega, by omega⟩, Nat.zero_add, show 387 * k + j - 387 * k = j by omega]
      rfl
    · have hb' : zh_b h 214 k = true := by
        have : zh_b (zh_ci (zh_wb h 214 n true) 212 0 213 (387 * n) 387) 214 k = zh_b h 214 k := by
          show zh_b (zh_wb h 214 n true) 214 k = _
          rw [hp_b_wb, if_neg (fun w => e w.2)]
        rw [this] at hb
        exact hb
      refine (k2 k hk hb').congr (fun j hj => ?_)
      rw [hp_i_ci, if_neg (fun w => by omega)]
      rfl
  · rw [c_iz hx]
    simp only [Option.bind_some, Option.toList_some, Option.toList_none, List.cons_append, List.nil_append]
    rw [b232_7, if_pos rfl, b232_10]
    exact sm_rc O ⟨_, rfl⟩
theorem o_back (O : RO h) (x : Int32) {u : Value} : RC h (zv 2 233 0 [.ref 211, .int x, u] [] h) := by
  obtain ⟨S, J, k1, k2, k3⟩ := id O
  rw [b233_0, show (0 : Int64) = (nI 0).toInt64 from rfl, show (1 : Int64) = (nI 1).toInt64 from rfl]
  rcases in_or x 0 1 (by decide) (by decide) with ⟨n, -, hn, rfl, hx⟩ | hx
  · have r2 : zh_r h 211 2 = .ref 214 := by rw [S.r, rx_211_2]
    have hz : ¬ (nI n < 0 ∨ 2 ≤ (nI n).toNatClampNeg) := zj_n (by omega) (by decide)
    rw [c_iy hx]
    simp only [Option.bind_some, Option.toList_some, Option.toList_none, List.cons_append, List.nil_append]
    rw [b233_7, if_neg (by decide), b233_12 (S_g0 S) (S_g1 S) (by rw [r2, zq_rf]) (by rw [r2, zq_rf, S.n]; decide) (by rw [r2, zq_rf, S.k, kx_214]; exact hz) (by rw [r2, zq_rf, S.k, kx_214]), r2, zq_rf, nI_clamp (by omega)]
    cases hb : zh_b h 214 n with
    | false =>
      rw [zi_bI_f, if_pos rfl, b233_21]
      exact sm_rc O ⟨_, rfl⟩
    | true =>
      rw [zi_bI_t, if_neg (by decide), b233_24, c_backL S (by omega)]
      refine ⟨_, _, rfl, ⟨S.ci _ _ _ _ _, ?_, k1, fun k hk hb => k2 k hk hb, fun k hk => k3 k hk⟩, Fr.ci (by decide)⟩
      refine (k2 n (by omega) hb).congr (fun j hj => ?_)
      rw [hp_i_ci, if_pos ⟨rfl, by omega, by omega⟩, Nat.sub_zero]
  · rw [c_iz hx]
    simp only [Option.bind_some, Option.toList_some, Option.toList_none, List.cons_append, List.nil_append]
    rw [b233_7, if_pos rfl, b233_10]
    exact sm_rc O ⟨_, rfl⟩
theorem q_shy {x y : Int32} (hx : nI 0 ≤ x ∧ x ≤ nI 3) (hy : nI 0 ≤ y ∧ y ≤ nI 2) : zv 2 234 0 [.int x, .int y] [] h = some (some (.int 1), h) := by
  rw [b234_0, show (0 : Int64) = (nI 0).toInt64 from rfl, show (3 : Int64) = (nI 3).toInt64 from rfl, c_iy hx]
  simp only [Option.bind_some, Option.toList_some, Option.toList_none, List.cons_append, List.nil_append]
  rw [b234_9, if_neg (by decide), b234_12, show (0 : Int64) = (nI 0).toInt64 from rfl, show (2 : Int64) = (nI 2).toInt64 from rfl, c_iy hy]
  simp only [Option.bind_some, Option.toList_some, Option.toList_none, List.cons_append, List.nil_append]
  rw [b234_21, if_neg (by decide), b234_24, b234_29 (Or.inr rfl)]
theorem q_shn {x y : Int32} (hx : ¬ ((nI 0 ≤ x ∧ x ≤ nI 3) ∧ (nI 0 ≤ y ∧ y ≤ nI 2))) : zv 2 234 0 [.int x, .int y] [] h = some (some (.int 0), h) := by
  rw [b234_0, show (0 : Int64) = (nI 0).toInt64 from rfl, show (3 : Int64) = (nI 3).toInt64 from rfl]
  by_cases h1 : nI 0 ≤ x ∧ x ≤ nI 3
  · rw [c_iy h1]
    simp only [Option.bind_some, Option.toList_some, Option.toList_none, List.cons_append, List.nil_append]
    rw [b234_9, if_neg (by decide), b234_12, show (0 : Int64) = (nI 0).toInt64 from rfl, show (2 : Int64) = (nI 2).toInt64 from rfl, c_iz (fun w => hx ⟨h1, w⟩)]
    simp only [Option.bind_some, Option.toList_some, Option.toList_none, List.cons_append, List.nil_append]
    rw [b234_21, if_pos rfl, b234_28, b234_29 (Or.inl rfl)]
  · rw [c_iz h1]
    simp only [Option.bind_some, Option.toList_some, Option.toList_none, List.cons_append, List.nil_append]
    rw [b234_9, if_pos rfl, b234_28, b234_29 (Or.inl rfl)]
theorem nI_iy {a i : Nat} : (40 : Int32) * nI a + nI i = nI (40 * a + i) := by
  show Int32.ofNat 40 * Int32.ofNat a + Int32.ofNat i = Int32.ofNat (40 * a + i)
  rw [Int32.ofNat_add, Int32.ofNat_mul]
/-- a sheet's cells are cleared -/
theorem q_shL {k : Nat} (hk : k < 4) {x2 x3 : Int32} : ∀ d i, i + d = 40 → ∀ {h : zi_Hp}, RO h → ∃ h', zv 3 235 40 [.ref 211, .int (nI k), .int x2, .int x3, .int (nI i)] [] h = some (some (.int 1), h') ∧ RO h' ∧ Fr h h' := by
  intro d
  induction d with
  | zero =>
    intro i hi h O
    have e : i = 40 := by omega
    subst e
    exact ⟨h, by rw [b235_40, if_neg (by decide), b235_66], O, Fr.refl h⟩
  | succ d ih =>
    intro i hi h O
    obtain ⟨S, J, k1, k2, k3⟩ := id O
    have r37 : zh_r h 211 37 = .ref 232 := by rw [S.r, rx_211_37]
    have e3 : nI i < 40 := nI_lt (b := 40) (by omega) (by decide)
    rw [b235_40, if_pos e3, b235_47 (S_g0 S) (S_g1 S) (by rw [r37, zq_rf]) (by rw [r37, zq_rf, S.n]; decide) (by rw [r37, zq_rf, S.k, kx_232, nI_iy]; exact zj_n (by omega) (by decide)) (by rw [r37, zq_rf, S.k, kx_232]), r37, zq_rf, nI_s]
    obtain ⟨h', e', O', F'⟩ := ih (i + 1) (by omega) (h := zh_wi h 232 (40 * nI k + nI i).toNatClampNeg 0) ⟨S.wi _ _ _, J, k1, k2, fun k hk => by rw [hp_i_wi, if_neg (by omega)]; exact k3 k hk⟩
    exact ⟨h', e', O', (Fr.wi (by decide)).trans F'⟩
/-- what sheet answers -/
def shV (x y w : Int32) : Int32 := if (nI 0 ≤ x ∧ x ≤ nI 3) ∧ (nI 0 ≤ y ∧ y ≤ nI 2) then (if 40 < w then -1 else if w < 0 then -14 else 1) else -1
/-- what sheet does to lanes and lengths -/
def shE (x y w : Int32) (la le la' le' : Nat → Int32) : Prop := (∃ k z, k ≤ 3 ∧ z ≤ 40 ∧ x = nI k ∧ w = nI z ∧ ¬ y = -4 ∧ shV x y w = 1 ∧ ∀ j, la' j = (if j = k then y else la j) ∧ le' j = (if j = k then nI z else le j)) ∨ (¬ shV x y w = 1 ∧ ∀ j, la' j = la j ∧ le' j = le j)
theorem o_sheet (O : RO h) (x y w : Int32) {u : Value} : ∃ h', zv 3 235 0 [.ref 211, .int x, .int y, .int w, u] [] h = some (some (.int (shV x y w)), h') ∧ RO h' ∧ Fx0 h h' ∧ zh_i h' 211 8 = zh_i h 211 8 ∧ shE x y w (zh_i h 230) (zh_i h 231) (zh_i h' 230) (zh_i h' 231) := by
  obtain ⟨S, J, k1, k2, k3⟩ := id O
  have no : ¬ shV x y w = 1 → ∀ {o : Option zi_Rt}, o = some (some (.int (shV x y w)), h) → ∃ h', o = some (some (.int (shV x y w)), h') ∧ RO h' ∧ Fx0 h h' ∧ zh_i h' 211 8 = zh_i h 211 8 ∧ shE x y w (zh_i h 230) (zh_i h 231) (zh_i h' 230) (zh_i h' 231) := fun q {o} e => ⟨h, e, O, Fx0.refl h, rfl, Or.inr ⟨q, fun _ => ⟨rfl, rfl⟩⟩⟩
  by_cases hs : (nI 0 ≤ x ∧ x ≤ nI 3) ∧ (nI 0 ≤ y ∧ y ≤ nI 2)
  · by_cases h40 : 40 < w
    · have ev : shV x y w = -1 := by unfold shV; rw [if_pos hs, if_pos h40]
      refine no (by rw [ev]; decide) ?_
      rw [b235_0, q_shy hs.1 hs.2, ev]
      simp only [Option.bind_some, Option.toList_some, Option.toList_none, List.cons_append, List.nil_append]
      rw [b235_5, if_neg (by decide), b235_8, if_pos h40, b235_14]
    · by_cases h0 : w < 0
      · have ev : shV x y w = -14 := by unfold shV; rw [if_pos hs, if_neg h40, if_pos h0]
        refine no (by rw [ev]; decide) ?_
        rw [b235_0, q_shy hs.1 hs.2, ev]
        simp only [Option.bind_some, Option.toList_some, Option.toList_none, List.cons_append, List.nil_append]
        rw [b235_5, if_neg (by decide), b235_8, if_neg h40, b235_16, if_pos h0, b235_20]
      · have ev : shV x y w = 1 := by unfold shV; rw [if_pos hs, if_neg h40, if_neg h0]
        have hy4 : ¬ y = -4 := fun q => by rw [q] at hs; exact absurd hs.2.1 (by decide)
        obtain ⟨k, hk, rfl⟩ : ∃ k, k ≤ 3 ∧ x = nI k := by
          rcases in_or x 0 3 (by decide) (by decide) with ⟨k, -, h1, h2, -⟩ | h3
          · exact ⟨k, h1, h2⟩
          · exact absurd hs.1 h3
        obtain ⟨z, hz, rfl⟩ : ∃ z, z ≤ 40 ∧ w = nI z := by
          rcases in_or w 0 40 (by decide) (by decide) with ⟨k, -, h1, h2, -⟩ | h3
          · exact ⟨k, h1, h2⟩
          · exact absurd ⟨Int32.not_lt.mp h0, Int32.not_lt.mp h40⟩ h3
        have r35 : zh_r h 211 35 = .ref 230 := by rw [S.r, rx_211_35]
        have r36 : zh_r h 211 36 = .ref 231 := by rw [S.r, rx_211_36]
        have hz4 : ¬ (nI k < 0 ∨ 4 ≤ (nI k).toNatClampNeg) := zj_n (by omega) (by decide)
        obtain ⟨h', e', O', F'⟩ := q_shL (k := k) (by omega) (x2 := y) (x3 := nI z) 40 0 rfl (h := zh_wi (zh_wi h 230 k y) 231 k (nI z)) ⟨(S.wi _ _ _).wi _ _ _, J, k1, k2, fun j hj => by
          rw [hp_i_wi]
          by_cases e : j = k
          · rw [if_pos ⟨rfl, e⟩]; exact ⟨z, hz, rfl⟩
          · rw [if_neg (fun w => e w.2), hp_i_wi, if_neg (by omega)]; exact k3 j hj⟩
        refine ⟨h', ?_, O', ((Fx0.wi (by decide)).trans (Fx0.wi (by decide))).trans F'.1.1, ?_, Or.inl ⟨k, z, hk, hz, rfl, rfl, hy4, ev, fun j => ⟨?_, ?_⟩⟩⟩
        · rw [b235_0, q_shy hs.1 hs.2, ev]
          simp only [Option.bind_some, Option.toList_some, Option.toList_none, List.cons_append, List.nil_append]
          rw [b235_5, if_neg (by decide), b235_8, if_neg h40, b235_16, if_neg h0, b235_23 (S_g0 S) (S_g1 S) (by rw [r35, zq_rf]) (by rw [r35, zq_rf, S.n]; decide) (by rw [r35, zq_rf, S.k, kx_230]; exact hz4) (by rw [r35, zq_rf, S.k, kx_230]) (by rw [r36, zq_rf]) (by rw [r36, zq_rf, S.n]; decide) (by rw [r36, zq_rf, S.k, kx_231]; exact hz4) (by rw [r36, zq_rf, S.k, kx_231]), r35, r36, zq_rf, zq_rf, nI_clamp (by omega), show (0 : Int32) = nI 0 from rfl]
          exact e'
        · rw [F'.2, hp_i_wi, if_neg (by omega), hp_i_wi, if_neg (by omega)]
        · rw [(F'.1.2 j).1, hp_i_wi, if_neg (by omega), hp_i_wi]
          by_cases e : j = k
          · rw [if_pos ⟨rfl, e⟩, if_pos e]
          · rw [if_neg (fun w => e w.2), if_neg e]
        · rw [(F'.1.2 j).2, hp_i_wi]
          by_cases e : j = k
          · rw [if_pos ⟨rfl, e⟩, if_pos e]
          · rw [if_neg (fun w => e w.2), if_neg e, hp_i_wi, if_neg (by omega)]
  · have ev : shV x y w = -1 := by unfold shV; rw [if_neg hs]
    refine no (by rw [ev]; decide) ?_
    rw [b235_0, q_shn hs, ev]
    simp only [Option.bind_some, Option.toList_some, Option.toList_none, List.cons_append, List.nil_append]
    rw [b235_5, if_pos rfl, b235_14]
/-- what lay answers, by lanes and lengths -/
def lyV (x y : Int32) (la le : Nat → Int32) (v : Int32) : Prop := (¬ (nI 0 ≤ x ∧ x ≤ nI 3) ∧ v = -1) ∨ ∃ k, k ≤ 3 ∧ x = nI k ∧ ((la k = -4 ∧ v = -11) ∨ (¬ la k = -4 ∧ ∃ z, z ≤ 40 ∧ le k = nI z ∧ v = if (0 : Int32) ≤ y ∧ y ≤ nI z - 1 then 1 else -12))
def RCy (h : zi_Hp) (o : Option zi_Rt) (x y : Int32) : Prop := ∃ v h', o = some (some (.int v), h') ∧ RO h' ∧ Fr h h' ∧ lyV x y (zh_i h 230) (zh_i h 231) v
theorem o_layv (O : RO h) (x y w : Int32) : RCy h (zv 3 236 0 [.ref 211, .int x, .int y, .int w] [] h) x y := by
  obtain ⟨S, J, k1, k2, k3⟩ := id O
  by_cases hs : (nI 0 ≤ x ∧ x ≤ nI 3)
  · obtain ⟨k, hk, rfl⟩ : ∃ k, k ≤ 3 ∧ x = nI k := by
      rcases in_or x 0 3 (by decide) (by decide) with ⟨k, -, h1, h2, -⟩ | h3
      · exact ⟨k, h1, h2⟩
      · exact absurd hs h3
    have r35 : zh_r h 211 35 = .ref 230 := by rw [S.r, rx_211_35]
    have r36 : zh_r h 211 36 = .ref 231 := by rw [S.r, rx_211_36]
    have r37 : zh_r h 211 37 = .ref 232 := by rw [S.r, rx_211_37]
    have hz4 : ¬ (nI k < 0 ∨ 4 ≤ (nI k).toNatClampNeg) := zj_n (by omega) (by decide)
    obtain ⟨z, hz, ez⟩ := k3 k (by omega)
    rw [b236_0, q_shy hs (by decide)]
    simp only [Option.bind_some, Option.toList_some, Option.toList_none, List.cons_append, List.nil_append]
    rw [b236_5, if_neg (by decide), b236_10 (S_g0 S) (S_g1 S) (by rw [r35, zq_rf]) (by rw [r35, zq_rf, S.n]; decide) (by rw [r35, zq_rf, S.k, kx_230]; exact hz4) (by rw [r35, zq_rf, S.k, kx_230]), r35, zq_rf, nI_clamp (by omega)]
    by_cases hl : zh_i h 230 k = -4
    · rw [if_pos hl, b236_21]; exact ⟨_, h, rfl, O, Fr.refl h, Or.inr ⟨k, hk, rfl, Or.inl ⟨hl, rfl⟩⟩⟩
    · rw [if_neg hl, b236_24 (S_g0 S) (S_g1 S) (by rw [r36, zq_rf]) (by rw [r36, zq_rf, S.n]; decide) (by rw [r36, zq_rf, S.k, kx_231]; exact hz4) (by rw [r36, zq_rf, S.k, kx_231]), r36, zq_rf, nI_clamp (by omega), ez, show (0 : Int64) = (0 : Int32).toInt64 from rfl, c_inI]
      simp only [Option.bind_some, Option.toList_some, Option.toList_none, List.cons_append, List.nil_append]
      rw [b236_39]
      by_cases hi : (0 : Int32) ≤ y ∧ y ≤ nI z - 1
      · have hz0 : 1 ≤ z := by
          refine Nat.pos_of_ne_zero (fun w => ?_)
          rw [w] at hi
          exact absurd (Int32.le_trans hi.1 hi.2) (by decide)
        have em1 : nI z - 1 = nI (z - 1) := by rw [show (1 : Int32) = nI 1 from rfl, nI_sub (by omega)]
        obtain ⟨i, hi1, rfl⟩ : ∃ i, i ≤ z - 1 ∧ y = nI i := by
          rw [em1] at hi
          rcases in_or y 0 (z - 1) (by omega) (by omega) with ⟨i, -, h1, h2, -⟩ | h3
          · exact ⟨i, h1, h2⟩
          · exact absurd hi h3
        have fin : ∀ v : Int32, RCy h (zv 3 236 85 [.ref 211, .int (nI k), .int (nI i), .int w] [.int v, .int (40 * nI k + nI i), .ref 232] h) (nI k) (nI i) := fun v => by
          rw [nI_iy, b236_85 (by rw [S.n]; decide) (by rw [S.k, kx_232]; exact zj_n (by omega) (by decide)) (by rw [S.k, kx_232])]
          exact ⟨_, _, rfl, ⟨S.wi _ _ _, J, k1, k2, fun j hj => by rw [hp_i_wi, if_neg (by omega)]; exact k3 j hj⟩, Fr.wi (by decide), Or.inr ⟨k, hk, rfl, Or.inr ⟨hl, z, hz, ez, by rw [if_pos hi]⟩⟩⟩
        rw [if_pos hi, if_neg (by decide), b236_45 (S_g0 S) (S_g1 S) (by rw [r37, zq_rf]) (by rw [r35, zq_rf]) (by rw [r35, zq_rf, S.n]; decide) (by rw [r35, zq_rf, S.k, kx_230]; exact hz4) (by rw [r35, zq_rf, S.k, kx_230]), r35, r37, zq_rf, zq_rf, nI_clamp (by omega)]
        by_cases h0 : zh_i h 230 k = 0
        · rw [if_pos h0, b236_64]; exact fin _
        · rw [if_neg h0, b236_69 (S_g0 S) (S_g1 S) (by rw [r35, zq_rf]) (by rw [r35, zq_rf, S.n]; decide) (by rw [r35, zq_rf, S.k, kx_230]; exact hz4) (by rw [r35, zq_rf, S.k, kx_230]), r35, zq_rf, nI_clamp (by omega)]
          by_cases h1 : zh_i h 230 k = 1
          · rw [if_pos h1, b236_79]; exact fin _
          · rw [if_neg h1, b236_84]; exact fin _
      · rw [if_neg hi, if_pos rfl, b236_42]; exact ⟨_, h, rfl, O, Fr.refl h, Or.inr ⟨k, hk, rfl, Or.inr ⟨hl, z, hz, ez, by rw [if_neg hi]⟩⟩⟩
  · rw [b236_0, q_shn (fun w => hs w.1)]
    simp only [Option.bind_some, Option.toList_some, Option.toList_none, List.cons_append, List.nil_append]
    rw [b236_5, if_pos rfl, b236_8]
    exact ⟨_, h, rfl, O, Fr.refl h, Or.inl ⟨hs, rfl⟩⟩
theorem o_lay (O : RO h) (x y w : Int32) : RC h (zv 3 236 0 [.ref 211, .int x, .int y, .int w] [] h) := by
  obtain ⟨v, h', e, O', F', -⟩ := o_layv O x y w
  exact ⟨v, h', e, O', F'⟩
theorem o_count (O : RO h) (x : Int32) : RC h (zv 3 240 0 [.ref 211, .int x] [] h) := by
  obtain ⟨S, J, k1, k2, k3⟩ := id O
  obtain ⟨N, R, M, B, L, m, H, r, K, C, f, I⟩ := id J
  have e1 := I.1.1.1
  have e2 := I.1.1.2.2
  have r2 : zh_r h 211 2 = .ref 214 := by rw [S.r, rx_211_2]
  have r35 : zh_r h 211 35 = .ref 230 := by rw [S.r, rx_211_35]
  have r36 : zh_r h 211 36 = .ref 231 := by rw [S.r, rx_211_36]
  have cb : ∀ x : Int32, ∃ y, zv 2 239 0 [.ref 211, .int x, .double 0, .double 0] [] h = some (some (.int y), h) := fun x => by
    have p := q_cbn (q := (zh_i h 215, zh_i h 216, zh_i h 211 5, zh_b h 217)) S e1 e2 (x := x) (u2 := .double 0) (u3 := .double 0)
    rw [zQ_id] at p
    exact ⟨_, p⟩
  have ka : ∃ y, zv 2 200 0 [.ref 211, .int 1, .double 0, .double 0, .double 0] [] h = some (some (.int y), h) := by
    have p := q_ka (q := (zh_i h 215, zh_i h 216, zh_i h 211 5, zh_b h 217)) S I (x := 1) (u2 := .double 0) (u3 := .double 0) (u4 := .double 0)
    rw [zQ_id] at p
    exact ⟨_, p⟩
  refine sm_rc O ?_
  rcases in_or x 0 5 (by decide) (by decide) with ⟨k, -, hk, rfl, -⟩ | hx
  · have : k = 0 ∨ k = 1 ∨ k = 2 ∨ k = 3 ∨ k = 4 ∨ k = 5 := by omega
    rcases this with rfl | rfl | rfl | rfl | rfl | rfl
    · obtain ⟨y, ey⟩ := cb 1
      rw [b240_0_c0 (x1 := nI 0) rfl, b240_40 (S_g0 S) (S_g1 S), ey]
      simp only [Option.bind_some, Option.toList_some, Option.toList_none, List.cons_append, List.nil_append]
      rw [b240_45]; exact ⟨_, rfl⟩
    · rw [b240_0_c1 (x1 := nI 1) rfl, b240_46 (S_g0 S) (S_g1 S) (by rw [r2, zq_rf]) (by rw [r2, zq_rf, S.n]; decide) (by rw [r2, zq_rf, S.k, kx_214]; decide) (by rw [r2, zq_rf, S.k, kx_214]), r_flag]
      simp only [Option.bind_some, Option.toList_some, Option.toList_none, List.cons_append, List.nil_append]
      rw [b240_55 (S_g0 S) (S_g1 S) (by rw [r2, zq_rf]) (by rw [r2, zq_rf, S.n]; decide) (by rw [r2, zq_rf, S.k, kx_214]; decide) (by rw [r2, zq_rf, S.k, kx_214]), r_flag]
      simp only [Option.bind_some, Option.toList_some, Option.toList_none, List.cons_append, List.nil_append]
      rw [b240_64]; exact ⟨_, rfl⟩
    · rw [b240_0_c2 (x1 := nI 2) rfl, b240_66 (S_g0 S) (S_g1 S)]; exact ⟨_, rfl⟩
    · rw [b240_0_c3 (x1 := nI 3) rfl, b240_71 (S_g0 S) (S_g1 S) (by rw [r35, zq_rf]) (by rw [r35, zq_rf, S.n]; decide) (by rw [r35, zq_rf, S.k, kx_230]; decide) (by rw [r35, zq_rf, S.k, kx_230])]
      split
      · rw [b240_82, b240_93]; exact ⟨_, rfl⟩
      · rw [b240_87 (S_g0 S) (S_g1 S) (by rw [r36, zq_rf]) (by rw [r36, zq_rf, S.n]; decide) (by rw [r36, zq_rf, S.k, kx_231]; decide) (by rw [r36, zq_rf, S.k, kx_231]), b240_93]; exact ⟨_, rfl⟩
    · obtain ⟨y, ey⟩ := ka
      rw [b240_0_c4 (x1 := nI 4) rfl, b240_94 (S_g0 S) (S_g1 S), ey]
      simp only [Option.bind_some, Option.toList_some, Option.toList_none, List.cons_append, List.nil_append]
      rw [b240_99]; exact ⟨_, rfl⟩
    · obtain ⟨y, ey⟩ := cb 0
      rw [b240_0_c5 (x1 := nI 5) rfl, b240_100 (S_g0 S) (S_g1 S), ey]
      simp only [Option.bind_some, Option.toList_some, Option.toList_none, List.cons_append, List.nil_append]
      rw [b240_105]; exact ⟨_, rfl⟩
  · rw [b240_0_d, b240_106]
    · exact ⟨_, rfl⟩
    · refine Decidable.by_contra (fun w => hx ?_)
      rw [Int32.le_iff_toInt_le, Int32.le_iff_toInt_le, nI_toInt (by decide), nI_toInt (by decide)]
      omega
end R24B
