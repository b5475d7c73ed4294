/-! THE REFERENCE's rows, answers, first, chance -/
section R24F
variable {h : zi_Hp}
def Ss (h h' : zi_Hp) : Prop := Sh h' ∧ Fr h h' ∧ (zh_i h' 211 8 = zh_i h 211 8 ∧ (∀ j, zh_i h' 213 j = zh_i h 213 j) ∧ (∀ j, zh_b h' 214 j = zh_b h 214 j) ∧ (∀ j, zh_i h' 231 j = zh_i h 231 j)) ∧ (∀ j, zh_i h' 212 j = zh_i h 212 j)
theorem Ss.refl (S : Sh h) : Ss h h := ⟨S, Fr.refl h, ⟨rfl, fun _ => rfl, fun _ => rfl, fun _ => rfl⟩, fun _ => rfl⟩
theorem Ss.trans {a b c : zi_Hp} (p : Ss a b) (q : Ss b c) : Ss a c := by
  obtain ⟨-, p2, ⟨p3, p4, p5, p6⟩, p7⟩ := p
  obtain ⟨q1, q2, ⟨q3, q4, q5, q6⟩, q7⟩ := q
  exact ⟨q1, p2.trans q2, ⟨q3.trans p3, fun j => (q4 j).trans (p4 j), fun j => (q5 j).trans (p5 j), fun j => (q6 j).trans (p6 j)⟩, fun j => (q7 j).trans (p7 j)⟩
theorem Ss.wi {a k : Nat} {v : Int32} (S : Sh h) (ha : a = 224 ∨ a = 225 ∨ a = 227 ∨ a = 228 ∨ (a = 211 ∧ 27 ≤ k)) : Ss h (zh_wi h a k v) := ⟨S.wi _ _ _, Fr.wi (by omega), ⟨by rw [hp_i_wi, if_neg (by omega)], fun j => by rw [hp_i_wi, if_neg (by omega)], fun _ => rfl, fun j => by rw [hp_i_wi, if_neg (by omega)]⟩, fun j => by rw [hp_i_wi, if_neg (by omega)]⟩
theorem Ss.wl {a k : Nat} {v : Int64} (S : Sh h) (ha : 211 ≤ a) : Ss h (zh_wl h a k v) := ⟨S.wl _ _ _, Fr.wl ha, ⟨rfl, fun j => rfl, fun _ => rfl, fun j => rfl⟩, fun j => rfl⟩
theorem Ss.rk {a b : zi_Hp} (p : Ss a b) (k : RK a) : RK b := k.same p.2.2.1.1 p.2.2.1.2.1 p.2.2.1.2.2.1 p.2.2.1.2.2.2
def wv : Nat → Int64
  | 0 => 1
  | i + 1 => wv i * 6
theorem sr_1 {n : Nat} : ∀ d i, i + d = 6 → ∀ {h : zi_Hp}, Sh h → ∃ h', zv 1 216 27 [.ref 211, .int (nI n), .int (nI i)] [] h = zv 1 216 61 [.ref 211, .int (nI n), .int 6] [] h' ∧ Ss h h' := by
  intro d
  induction d with
  | zero =>
    intro i hi h S
    have : i = 6 := by omega
    subst this
    exact ⟨h, by rw [b216_27, if_neg (by decide)]; rfl, Ss.refl S⟩
  | succ d ih =>
    intro i hi h S
    have e3 : nI i < 6 := nI_lt (b := 6) (by omega) (by decide)
    have hz : ¬ (nI i < 0 ∨ 6 ≤ (nI i).toNatClampNeg) := zj_n (by omega) (by decide)
    have hy : True := trivial
    have r32 : zh_r h 211 32 = .ref 227 := by rw [S.r, rx_211_32]
    have r33 : zh_r h 211 33 = .ref 228 := by rw [S.r, rx_211_33]
    have r34 : zh_r h 211 34 = .ref 229 := by rw [S.r, rx_211_34]
    rw [b216_27, if_pos e3, b216_33 (by simp +decide only [S.n, S.k, S.r, hp_n_wi, hp_k_wi, hp_r_wi, hp_n_wl, hp_k_wl, hp_r_wl, zq_rf, kx_211, kx_212, kx_221, kx_222, kx_223, kx_224, kx_225, kx_226, kx_227, kx_228, kx_229, rx_211_0, rx_211_21, rx_211_22, rx_211_23, rx_211_24, rx_211_25, rx_211_26, rx_211_32, rx_211_33, rx_211_34, hz, hy]) (by simp +decide only [S.n, S.k, S.r, hp_n_wi, hp_k_wi, hp_r_wi, hp_n_wl, hp_k_wl, hp_r_wl, zq_rf, kx_211, kx_212, kx_221, kx_222, kx_223, kx_224, kx_225, kx_226, kx_227, kx_228, kx_229, rx_211_0, rx_211_21, rx_211_22, rx_211_23, rx_211_24, rx_211_25, rx_211_26, rx_211_32, rx_211_33, rx_211_34, hz, hy]) (by simp +decide only [S.n, S.k, S.r, hp_n_wi, hp_k_wi, hp_r_wi, hp_n_wl, hp_k_wl, hp_r_wl, zq_rf, kx_211, kx_212, kx_221, kx_222, kx_223, kx_224, kx_225, kx_226, kx_227, kx_228, kx_229, rx_211_0, rx_211_21, rx_211_22, rx_211_23, rx_211_24, rx_211_25, rx_211_26, rx_211_32, rx_211_33, rx_211_34, hz, hy]) (by simp +decide only [S.n, S.k, S.r, hp_n_wi, hp_k_wi, hp_r_wi, hp_n_wl, hp_k_wl, hp_r_wl, zq_rf, kx_211, kx_212, kx_221, kx_222, kx_223, kx_224, kx_225, kx_226, kx_227, kx_228, kx_229, rx_211_0, rx_211_21, rx_211_22, rx_211_23, rx_211_24, rx_211_25, rx_211_26, rx_211_32, rx_211_33, rx_211_34, hz, hy]) (by simp +decide only [S.n, S.k, S.r, hp_n_wi, hp_k_wi, hp_r_wi, hp_n_wl, hp_k_wl, hp_r_wl, zq_rf, kx_211, kx_212, kx_221, kx_222, kx_223, kx_224, kx_225, kx_226, kx_227, kx_228, kx_229, rx_211_0, rx_211_21, rx_211_22, rx_211_23, rx_211_24, rx_211_25, rx_211_26, rx_211_32, rx_211_33, rx_211_34, hz, hy]) (by simp +decide only [S.n, S.k, S.r, hp_n_wi, hp_k_wi, hp_r_wi, hp_n_wl, hp_k_wl, hp_r_wl, zq_rf, kx_211, kx_212, kx_221, kx_222, kx_223, kx_224, kx_225, kx_226, kx_227, kx_228, kx_229, rx_211_0, rx_211_21, rx_211_22, rx_211_23, rx_211_24, rx_211_25, rx_211_26, rx_211_32, rx_211_33, rx_211_34, hz, hy]) (by simp +decide only [S.n, S.k, S.r, hp_n_wi, hp_k_wi, hp_r_wi, hp_n_wl, hp_k_wl, hp_r_wl, zq_rf, kx_211, kx_212, kx_221, kx_222, kx_223, kx_224, kx_225, kx_226, kx_227, kx_228, kx_229, rx_211_0, rx_211_21, rx_211_22, rx_211_23, rx_211_24, rx_211_25, rx_211_26, rx_211_32, rx_211_33, rx_211_34, hz, hy]) (by simp +decide only [S.n, S.k, S.r, hp_n_wi, hp_k_wi, hp_r_wi, hp_n_wl, hp_k_wl, hp_r_wl, zq_rf, kx_211, kx_212, kx_221, kx_222, kx_223, kx_224, kx_225, kx_226, kx_227, kx_228, kx_229, rx_211_0, rx_211_21, rx_211_22, rx_211_23, rx_211_24, rx_211_25, rx_211_26, rx_211_32, rx_211_33, rx_211_34, hz, hy]) (by simp +decide only [S.n, S.k, S.r, hp_n_wi, hp_k_wi, hp_r_wi, hp_n_wl, hp_k_wl, hp_r_wl, zq_rf, kx_211, kx_212, kx_221, kx_222, kx_223, kx_224, kx_225, kx_226, kx_227, kx_228, kx_229, rx_211_0, rx_211_21, rx_211_22, rx_211_23, rx_211_24, rx_211_25, rx_211_26, rx_211_32, rx_211_33, rx_211_34, hz, hy]) (by simp +decide only [S.n, S.k, S.r, hp_n_wi, hp_k_wi, hp_r_wi, hp_n_wl, hp_k_wl, hp_r_wl, zq_rf, kx_211, kx_212, kx_221, kx_222, kx_223, kx_224, kx_225, kx_226, kx_227, kx_228, kx_229, rx_211_0, rx_211_21, rx_211_22, rx_211_23, rx_211_24, rx_211_25, rx_211_26, rx_211_32, rx_211_33, rx_211_34, hz, hy]) (by simp +decide only [S.n, S.k, S.r, hp_n_wi, hp_k_wi, hp_r_wi, hp_n_wl, hp_k_wl, hp_r_wl, zq_rf, kx_211, kx_212, kx_221, kx_222, kx_223, kx_224, kx_225, kx_226, kx_227, kx_228, kx_229, rx_211_0, rx_211_21, rx_211_22, rx_211_23, rx_211_24, rx_211_25, rx_211_26, rx_211_32, rx_211_33, rx_211_34, hz, hy]) (by simp +decide only [S.n, S.k, S.r, hp_n_wi, hp_k_wi, hp_r_wi, hp_n_wl, hp_k_wl, hp_r_wl, zq_rf, kx_211, kx_212, kx_221, kx_222, kx_223, kx_224, kx_225, kx_226, kx_227, kx_228, kx_229, rx_211_0, rx_211_21, rx_211_22, rx_211_23, rx_211_24, rx_211_25, rx_211_26, rx_211_32, rx_211_33, rx_211_34, hz, hy]) (by simp +decide only [S.n, S.k, S.r, hp_n_wi, hp_k_wi, hp_r_wi, hp_n_wl, hp_k_wl, hp_r_wl, zq_rf, kx_211, kx_212, kx_221, kx_222, kx_223, kx_224, kx_225, kx_226, kx_227, kx_228, kx_229, rx_211_0, rx_211_21, rx_211_22, rx_211_23, rx_211_24, rx_211_25, rx_211_26, rx_211_32, rx_211_33, rx_211_34, hz, hy]) (by simp +decide only [S.n, S.k, S.r, hp_n_wi, hp_k_wi, hp_r_wi, hp_n_wl, hp_k_wl, hp_r_wl, zq_rf, kx_211, kx_212, kx_221, kx_222, kx_223, kx_224, kx_225, kx_226, kx_227, kx_228, kx_229, rx_211_0, rx_211_21, rx_211_22, rx_211_23, rx_211_24, rx_211_25, rx_211_26, rx_211_32, rx_211_33, rx_211_34, hz, hy]), r32, r33, r34, zq_rf, zq_rf, zq_rf, nI_s]
    have T : ∀ k1 k2 k3 v1 v2 v3, Ss h (zh_wl (zh_wi (zh_wi h 227 k1 v1) 228 k2 v2) 229 k3 v3) := fun k1 k2 k3 v1 v2 v3 => ((Ss.wi S (by omega)).trans (Ss.wi (S.wi _ _ _) (by omega))).trans (Ss.wl ((S.wi _ _ _).wi _ _ _) (by decide))
    have fin : ∀ h1, Ss h h1 → ∃ h', zv 1 216 27 [.ref 211, .int (nI n), .int (nI (i + 1))] [] h1 = zv 1 216 61 [.ref 211, .int (nI n), .int 6] [] h' ∧ Ss h h' := fun h1 T1 => by
      obtain ⟨h', e', T'⟩ := ih (i + 1) (by omega) T1.1
      exact ⟨h', e', T1.trans T'⟩
    exact fin _ (T _ _ _ _ _ _)
theorem sr_2 {n : Nat} (hn : n ≤ 7) : ∀ d i, i + d = n → ∀ {h : zi_Hp}, Sh h → zh_l h 226 0 = wv i → ∃ h', zv 1 216 70 [.ref 211, .int (nI n), .int (nI i)] [] h = zv 1 216 93 [.ref 211, .int (nI n), .int (nI n)] [] h' ∧ Ss h h' ∧ zh_l h' 226 0 = wv n := by
  intro d
  induction d with
  | zero =>
    intro i hi h S e
    have : i = n := by omega
    subst this
    exact ⟨h, by rw [b216_70, if_neg Int32.lt_irrefl], Ss.refl S, e⟩
  | succ d ih =>
    intro i hi h S e
    have e3 : nI i < nI n := nI_lt (by omega) (by omega)
    have hz : True := trivial
    have hy : True := trivial
    have r26 : zh_r h 211 26 = .ref 226 := by rw [S.r, rx_211_26]
    rw [b216_70, if_pos e3, b216_75 (by simp +decide only [S.n, S.k, S.r, hp_n_wi, hp_k_wi, hp_r_wi, hp_n_wl, hp_k_wl, hp_r_wl, zq_rf, kx_211, kx_212, kx_221, kx_222, kx_223, kx_224, kx_225, kx_226, kx_227, kx_228, kx_229, rx_211_0, rx_211_21, rx_211_22, rx_211_23, rx_211_24, rx_211_25, rx_211_26, rx_211_32, rx_211_33, rx_211_34, hz, hy]) (by simp +decide only [S.n, S.k, S.r, hp_n_wi, hp_k_wi, hp_r_wi, hp_n_wl, hp_k_wl, hp_r_wl, zq_rf, kx_211, kx_212, kx_221, kx_222, kx_223, kx_224, kx_225, kx_226, kx_227, kx_228, kx_229, rx_211_0, rx_211_21, rx_211_22, rx_211_23, rx_211_24, rx_211_25, rx_211_26, rx_211_32, rx_211_33, rx_211_34, hz, hy]) (by simp +decide only [S.n, S.k, S.r, hp_n_wi, hp_k_wi, hp_r_wi, hp_n_wl, hp_k_wl, hp_r_wl, zq_rf, kx_211, kx_212, kx_221, kx_222, kx_223, kx_224, kx_225, kx_226, kx_227, kx_228, kx_229, rx_211_0, rx_211_21, rx_211_22, rx_211_23, rx_211_24, rx_211_25, rx_211_26, rx_211_32, rx_211_33, rx_211_34, hz, hy]) (by simp +decide only [S.n, S.k, S.r, hp_n_wi, hp_k_wi, hp_r_wi, hp_n_wl, hp_k_wl, hp_r_wl, zq_rf, kx_211, kx_212, kx_221, kx_222, kx_223, kx_224, kx_225, kx_226, kx_227, kx_228, kx_229, rx_211_0, rx_211_21, rx_211_22, rx_211_23, rx_211_24, rx_211_25, rx_211_26, rx_211_32, rx_211_33, rx_211_34, hz, hy]) (by simp +decide only [S.n, S.k, S.r, hp_n_wi, hp_k_wi, hp_r_wi, hp_n_wl, hp_k_wl, hp_r_wl, zq_rf, kx_211, kx_212, kx_221, kx_222, kx_223, kx_224, kx_225, kx_226, kx_227, kx_228, kx_229, rx_211_0, rx_211_21, rx_211_22, rx_211_23, rx_211_24, rx_211_25, rx_211_26, rx_211_32, rx_211_33, rx_211_34, hz, hy]) (by simp +decide only [S.n, S.k, S.r, hp_n_wi, hp_k_wi, hp_r_wi, hp_n_wl, hp_k_wl, hp_r_wl, zq_rf, kx_211, kx_212, kx_221, kx_222, kx_223, kx_224, kx_225, kx_226, kx_227, kx_228, kx_229, rx_211_0, rx_211_21, rx_211_22, rx_211_23, rx_211_24, rx_211_25, rx_211_26, rx_211_32, rx_211_33, rx_211_34, hz, hy]), r26, zq_rf, nI_s, e]
    obtain ⟨h', e', T', w'⟩ := ih (i + 1) (by omega) (h := zh_wl h 226 0 (wv i * 6)) (S.wl _ _ _) (by rw [hp_l_wl, if_pos ⟨rfl, rfl⟩]; rfl)
    exact ⟨h', e', (Ss.wl S (by decide)).trans T', w'⟩
theorem wv_nz {n : Nat} (hn : n ≤ 7) : ¬ wv n = 0 := by
  have : n = 0 ∨ n = 1 ∨ n = 2 ∨ n = 3 ∨ n = 4 ∨ n = 5 ∨ n = 6 ∨ n = 7 := by omega
  rcases this with rfl | rfl | rfl | rfl | rfl | rfl | rfl | rfl <;> decide
theorem u_sr (S : Sh h) {n : Nat} (hn : n ≤ 7) {u2 : Value} : ∃ h', zv 1 216 0 [.ref 211, .int (nI n), u2] [] h = some (none, h') ∧ Ss h h' ∧ ¬ zh_l h' 226 0 = 0 := by
  have hz : True := trivial
  have hy : True := trivial
  rw [b216_0 (by simp +decide only [S.n, S.k, S.r, hp_n_wi, hp_k_wi, hp_r_wi, hp_n_wl, hp_k_wl, hp_r_wl, zq_rf, kx_211, kx_212, kx_221, kx_222, kx_223, kx_224, kx_225, kx_226, kx_227, kx_228, kx_229, rx_211_0, rx_211_21, rx_211_22, rx_211_23, rx_211_24, rx_211_25, rx_211_26, rx_211_32, rx_211_33, rx_211_34, hz, hy]) (by simp +decide only [S.n, S.k, S.r, hp_n_wi, hp_k_wi, hp_r_wi, hp_n_wl, hp_k_wl, hp_r_wl, zq_rf, kx_211, kx_212, kx_221, kx_222, kx_223, kx_224, kx_225, kx_226, kx_227, kx_228, kx_229, rx_211_0, rx_211_21, rx_211_22, rx_211_23, rx_211_24, rx_211_25, rx_211_26, rx_211_32, rx_211_33, rx_211_34, hz, hy])]
  have fin : ∀ h1, Ss h h1 → ∃ h', zv 1 216 27 [.ref 211, .int (nI n), .int 0] [] h1 = some (none, h') ∧ Ss h h' ∧ ¬ zh_l h' 226 0 = 0 := fun h1 T1 => by
    obtain ⟨h2, e2, T2⟩ := sr_1 (n := n) 6 0 rfl T1.1
    have e2' : zv 1 216 27 [.ref 211, .int (nI n), .int 0] [] h1 = zv 1 216 61 [.ref 211, .int (nI n), .int 6] [] h2 := e2
    have S := T2.1
    have r26 : zh_r h2 211 26 = .ref 226 := by rw [S.r, rx_211_26]
    rw [e2', b216_61 (by simp +decide only [S.n, S.k, S.r, hp_n_wi, hp_k_wi, hp_r_wi, hp_n_wl, hp_k_wl, hp_r_wl, zq_rf, kx_211, kx_212, kx_221, kx_222, kx_223, kx_224, kx_225, kx_226, kx_227, kx_228, kx_229, rx_211_0, rx_211_21, rx_211_22, rx_211_23, rx_211_24, rx_211_25, rx_211_26, rx_211_32, rx_211_33, rx_211_34, hz, hy]) (by simp +decide only [S.n, S.k, S.r, hp_n_wi, hp_k_wi, hp_r_wi, hp_n_wl, hp_k_wl, hp_r_wl, zq_rf, kx_211, kx_212, kx_221, kx_222, kx_223, kx_224, kx_225, kx_226, kx_227, kx_228, kx_229, rx_211_0, rx_211_21, rx_211_22, rx_211_23, rx_211_24, rx_211_25, rx_211_26, rx_211_32, rx_211_33, rx_211_34, hz, hy]) (by simp +decide only [S.n, S.k, S.r, hp_n_wi, hp_k_wi, hp_r_wi, hp_n_wl, hp_k_wl, hp_r_wl, zq_rf, kx_211, kx_212, kx_221, kx_222, kx_223, kx_224, kx_225, kx_226, kx_227, kx_228, kx_229, rx_211_0, rx_211_21, rx_211_22, rx_211_23, rx_211_24, rx_211_25, rx_211_26, rx_211_32, rx_211_33, rx_211_34, hz, hy]) (by simp +decide only [S.n, S.k, S.r, hp_n_wi, hp_k_wi, hp_r_wi, hp_n_wl, hp_k_wl, hp_r_wl, zq_rf, kx_211, kx_212, kx_221, kx_222, kx_223, kx_224, kx_225, kx_226, kx_227, kx_228, kx_229, rx_211_0, rx_211_21, rx_211_22, rx_211_23, rx_211_24, rx_211_25, rx_211_26, rx_211_32, rx_211_33, rx_211_34, hz, hy]) (by simp +decide only [S.n, S.k, S.r, hp_n_wi, hp_k_wi, hp_r_wi, hp_n_wl, hp_k_wl, hp_r_wl, zq_rf, kx_211, kx_212, kx_221, kx_222, kx_223, kx_224, kx_225, kx_226, kx_227, kx_228, kx_229, rx_211_0, rx_211_21, rx_211_22, rx_211_23, rx_211_24, rx_211_25, rx_211_26, rx_211_32, rx_211_33, rx_211_34, hz, hy]) (by simp +decide only [S.n, S.k, S.r, hp_n_wi, hp_k_wi, hp_r_wi, hp_n_wl, hp_k_wl, hp_r_wl, zq_rf, kx_211, kx_212, kx_221, kx_222, kx_223, kx_224, kx_225, kx_226, kx_227, kx_228, kx_229, rx_211_0, rx_211_21, rx_211_22, rx_211_23, rx_211_24, rx_211_25, rx_211_26, rx_211_32, rx_211_33, rx_211_34, hz, hy]), r26, zq_rf]
    obtain ⟨h3, e3, T3, w3⟩ := sr_2 hn n 0 (Nat.zero_add _) (h := zh_wl h2 226 0 1) (S.wl _ _ _) (by rw [hp_l_wl, if_pos ⟨rfl, rfl⟩]; rfl)
    have e3' : zv 1 216 70 [.ref 211, .int (nI n), .int 0] [] (zh_wl h2 226 0 1) = zv 1 216 93 [.ref 211, .int (nI n), .int (nI n)] [] h3 := e3
    have S := T3.1
    have r24 : zh_r h3 211 24 = .ref 224 := by rw [S.r, rx_211_24]
    have r25 : zh_r h3 211 25 = .ref 225 := by rw [S.r, rx_211_25]
    rw [e3', b216_93 (by simp +decide only [S.n, S.k, S.r, hp_n_wi, hp_k_wi, hp_r_wi, hp_n_wl, hp_k_wl, hp_r_wl, zq_rf, kx_211, kx_212, kx_221, kx_222, kx_223, kx_224, kx_225, kx_226, kx_227, kx_228, kx_229, rx_211_0, rx_211_21, rx_211_22, rx_211_23, rx_211_24, rx_211_25, rx_211_26, rx_211_32, rx_211_33, rx_211_34, hz, hy]) (by simp +decide only [S.n, S.k, S.r, hp_n_wi, hp_k_wi, hp_r_wi, hp_n_wl, hp_k_wl, hp_r_wl, zq_rf, kx_211, kx_212, kx_221, kx_222, kx_223, kx_224, kx_225, kx_226, kx_227, kx_228, kx_229, rx_211_0, rx_211_21, rx_211_22, rx_211_23, rx_211_24, rx_211_25, rx_211_26, rx_211_32, rx_211_33, rx_211_34, hz, hy]) (by simp +decide only [S.n, S.k, S.r, hp_n_wi, hp_k_wi, hp_r_wi, hp_n_wl, hp_k_wl, hp_r_wl, zq_rf, kx_211, kx_212, kx_221, kx_222, kx_223, kx_224, kx_225, kx_226, kx_227, kx_228, kx_229, rx_211_0, rx_211_21, rx_211_22, rx_211_23, rx_211_24, rx_211_25, rx_211_26, rx_211_32, rx_211_33, rx_211_34, hz, hy]) (by simp +decide only [S.n, S.k, S.r, hp_n_wi, hp_k_wi, hp_r_wi, hp_n_wl, hp_k_wl, hp_r_wl, zq_rf, kx_211, kx_212, kx_221, kx_222, kx_223, kx_224, kx_225, kx_226, kx_227, kx_228, kx_229, rx_211_0, rx_211_21, rx_211_22, rx_211_23, rx_211_24, rx_211_25, rx_211_26, rx_211_32, rx_211_33, rx_211_34, hz, hy]) (by simp +decide only [S.n, S.k, S.r, hp_n_wi, hp_k_wi, hp_r_wi, hp_n_wl, hp_k_wl, hp_r_wl, zq_rf, kx_211, kx_212, kx_221, kx_222, kx_223, kx_224, kx_225, kx_226, kx_227, kx_228, kx_229, rx_211_0, rx_211_21, rx_211_22, rx_211_23, rx_211_24, rx_211_25, rx_211_26, rx_211_32, rx_211_33, rx_211_34, hz, hy]) (by simp +decide only [S.n, S.k, S.r, hp_n_wi, hp_k_wi, hp_r_wi, hp_n_wl, hp_k_wl, hp_r_wl, zq_rf, kx_211, kx_212, kx_221, kx_222, kx_223, kx_224, kx_225, kx_226, kx_227, kx_228, kx_229, rx_211_0, rx_211_21, rx_211_22, rx_211_23, rx_211_24, rx_211_25, rx_211_26, rx_211_32, rx_211_33, rx_211_34, hz, hy]) (by simp +decide only [S.n, S.k, S.r, hp_n_wi, hp_k_wi, hp_r_wi, hp_n_wl, hp_k_wl, hp_r_wl, zq_rf, kx_211, kx_212, kx_221, kx_222, kx_223, kx_224, kx_225, kx_226, kx_227, kx_228, kx_229, rx_211_0, rx_211_21, rx_211_22, rx_211_23, rx_211_24, rx_211_25, rx_211_26, rx_211_32, rx_211_33, rx_211_34, hz, hy]) (by simp +decide only [S.n, S.k, S.r, hp_n_wi, hp_k_wi, hp_r_wi, hp_n_wl, hp_k_wl, hp_r_wl, zq_rf, kx_211, kx_212, kx_221, kx_222, kx_223, kx_224, kx_225, kx_226, kx_227, kx_228, kx_229, rx_211_0, rx_211_21, rx_211_22, rx_211_23, rx_211_24, rx_211_25, rx_211_26, rx_211_32, rx_211_33, rx_211_34, hz, hy]) (by simp +decide only [S.n, S.k, S.r, hp_n_wi, hp_k_wi, hp_r_wi, hp_n_wl, hp_k_wl, hp_r_wl, zq_rf, kx_211, kx_212, kx_221, kx_222, kx_223, kx_224, kx_225, kx_226, kx_227, kx_228, kx_229, rx_211_0, rx_211_21, rx_211_22, rx_211_23, rx_211_24, rx_211_25, rx_211_26, rx_211_32, rx_211_33, rx_211_34, hz, hy]) (by simp +decide only [S.n, S.k, S.r, hp_n_wi, hp_k_wi, hp_r_wi, hp_n_wl, hp_k_wl, hp_r_wl, zq_rf, kx_211, kx_212, kx_221, kx_222, kx_223, kx_224, kx_225, kx_226, kx_227, kx_228, kx_229, rx_211_0, rx_211_21, rx_211_22, rx_211_23, rx_211_24, rx_211_25, rx_211_26, rx_211_32, rx_211_33, rx_211_34, hz, hy]), r24, r25, zq_rf, zq_rf]
    refine ⟨_, rfl, ((((T1.trans T2).trans (Ss.wl T2.1 (by decide))).trans T3).trans (Ss.wi S (by omega))).trans (Ss.wi (S.wi _ _ _) (by omega)), ?_⟩
    show ¬ zh_l h3 226 0 = 0
    rw [w3]; exact wv_nz hn
  exact fin _ (((((Ss.wi S (by omega)).trans (Ss.wi (S.wi _ _ _) (by omega))).trans (Ss.wi ((S.wi _ _ _).wi _ _ _) (by omega))).trans (Ss.wi (((S.wi _ _ _).wi _ _ _).wi _ _ _) (by omega))).trans (Ss.wi ((((S.wi _ _ _).wi _ _ _).wi _ _ _).wi _ _ _) (by omega)))
/-- all rows -/
theorem o_fr (O : RO h) {n : Nat} (hn : n ≤ 7) {u2 u3 u4 : Value} : ∃ h', zv 7 217 0 [.ref 211, .int (nI n), u2, u3, u4] [] h = some (none, h') ∧ RO h' ∧ Fr h h' ∧ ¬ zh_l h' 226 0 = 0 := by
  obtain ⟨S, J, k⟩ := id O
  obtain ⟨h1, e1, T1, z1⟩ := u_sr S hn (u2 := .double 0)
  have J1 : Inv (zh_i h1 212) := J.congr (fun j _ => T1.2.2.2 j)
  obtain ⟨b, h2, e2, S2, F2, C2, -, -, -, l2, im2, hb⟩ := u_ct T1.1 J1 (D := 0) (n := n) (by omega) hn
  have k2 : RK h2 := (T1.rk k).same C2.1 C2.2.1 C2.2.2.1 C2.2.2.2
  have e2' : zv 6 215 0 [.ref 211, .int 0, .int (nI n)] [] h1 = some (some (.int (zi_bI b)), h2) := e2
  rw [b217_0 (S_g0 S) (S_g1 S), e1]
  simp only [Option.bind_some, Option.toList_some, Option.toList_none, List.cons_append, List.nil_append]
  rw [b217_5 (S_g0 T1.1) (S_g1 T1.1), e2']
  simp only [Option.bind_some, Option.toList_some, Option.toList_none, List.cons_append, List.nil_append]
  have fin : ∀ h3, Sh h3 → RK h3 → Fr h2 h3 → zh_l h3 226 0 = zh_l h2 226 0 → Inv (fun j => zh_i h3 221 (387 * 0 + j)) → ∀ {v3 v4 : Value}, ∃ h', zv 7 217 20 [.ref 211, .int (nI n), .int (-1), v3, v4] [] h3 = some (none, h') ∧ RO h' ∧ Fr h h' ∧ ¬ zh_l h' 226 0 = 0 := fun h3 S3 k3 F3 l3 W3 {v3 v4} => by
    have rs : zv 1 212 0 [.ref 211, .int 0, .double 0] [] h3 = some (none, zh_ci h3 221 (387 * 0) 212 0 387) := c_restores S3 (d := 0) (by decide)
    rw [b217_20, if_pos (by decide), b217_182 (S_g0 S3) (S_g1 S3), rs]
    simp only [Option.bind_some, Option.toList_some, Option.toList_none, List.cons_append, List.nil_append]
    rw [b217_187]
    refine ⟨_, rfl, ⟨S3.ci _ _ _ _ _, W3.congr (fun j hj => by rw [hp_i_ci, if_pos ⟨rfl, by omega, by omega⟩, Nat.sub_zero]), k3.same (by rw [hp_i_ci, if_neg (by decide)]) (fun j => by rw [hp_i_ci, if_neg (by omega)]) (fun j => rfl) (fun j => by rw [hp_i_ci, if_neg (by omega)])⟩, ((T1.2.1.trans F2).trans F3).trans (Fr.ci (by decide)), ?_⟩
    show ¬ zh_l h3 226 0 = 0
    rw [l3, l2]; exact z1
  rw [b217_11]
  cases b with
  | true =>
    rw [zi_bI_t, if_neg (by decide), b217_14, b217_19]
    exact fin h2 S2 k2 (Fr.refl _) rfl im2
  | false =>
    obtain ⟨b1, b2, kk, b3, b4, b5⟩ := hb rfl
    rw [zi_bI_f, if_pos rfl, b217_18, b217_19]
    obtain ⟨h3, v3, v4, e3, T3⟩ := fr_dfs hn n 0 (Nat.zero_add _) b1 (h := h2) (k := kk) (u3 := u3) (u4 := u4) S2 im2 b3 b4 b5 3 0 rfl b2
    have e3' : zv 7 217 20 [.ref 211, .int (nI n), .int 0, u3, u4] [] h2 = zv 7 217 20 [.ref 211, .int (nI n), .int (-1), v3, v4] [] h3 := e3
    rw [e3']
    exact fin h3 T3.1 (T3.rk k2) T3.2.1 T3.2.2.2.2.2.2 (im2.congr (fun j hj => T3.2.2.2.1 _ (by omega)))
theorem o_rows (O : RO h) (x y : Int32) : RC h (zv 8 218 0 [.ref 211, .int x, .int y] [] h) := by
  obtain ⟨S, J, k⟩ := id O
  rw [b218_0, show (0 : Int64) = (nI 0).toInt64 from rfl, show (7 : Int64) = (nI 7).toInt64 from rfl]
  rcases in_or x 0 7 (by decide) (by decide) with ⟨n, -, hn, rfl, hx⟩ | hx
  · rw [c_iy hx]
    simp only [Option.bind_some, Option.toList_some, Option.toList_none, List.cons_append, List.nil_append]
    rw [b218_9, if_neg (by decide), b218_12, show (0 : Int64) = (nI 0).toInt64 from rfl, show (4 : Int64) = (nI 4).toInt64 from rfl]
    rcases in_or y 0 4 (by decide) (by decide) with ⟨w, -, hw, rfl, hy⟩ | hy
    · obtain ⟨h1, e1, O1, F1, -⟩ := o_fr O hn (u2 := .double 0) (u3 := .double 0) (u4 := .double 0)
      have S1 := O1.1
      rw [c_iy hy]
      simp only [Option.bind_some, Option.toList_some, Option.toList_none, List.cons_append, List.nil_append]
      rw [b218_21, if_neg (by decide), b218_26 (S_g0 S) (S_g1 S), e1]
      simp only [Option.bind_some, Option.toList_some, Option.toList_none, List.cons_append, List.nil_append]
      have : w = 0 ∨ w = 1 ∨ w = 2 ∨ w = 3 ∨ w = 4 := by omega
      rcases this with rfl | rfl | rfl | rfl | rfl
      · rw [b218_31_c0 (x2 := nI 0) rfl, b218_64 (S_g0 S1) (S_g1 S1)]; exact ⟨_, h1, rfl, O1, F1⟩
      · rw [b218_31_c1 (x2 := nI 1) rfl, b218_69 (S_g0 S1) (S_g1 S1)]; exact ⟨_, h1, rfl, O1, F1⟩
      · rw [b218_31_c2 (x2 := nI 2) rfl, b218_74 (S_g0 S1) (S_g1 S1)]; exact ⟨_, h1, rfl, O1, F1⟩
      · rw [b218_31_c3 (x2 := nI 3) rfl, b218_79 (S_g0 S1) (S_g1 S1)]; exact ⟨_, h1, rfl, O1, F1⟩
      · rw [b218_31_d (x2 := nI 4) (by decide), b218_84 (S_g0 S1) (S_g1 S1)]; exact ⟨_, h1, rfl, O1, F1⟩
    · rw [c_iz hy]
      simp only [Option.bind_some, Option.toList_some, Option.toList_none, List.cons_append, List.nil_append]
      rw [b218_21, if_pos rfl, b218_24]; exact sm_rc O ⟨_, rfl⟩
  · rw [c_iz hx]
    simp only [Option.bind_some, Option.toList_some, Option.toList_none, List.cons_append, List.nil_append]
    rw [b218_9, if_pos rfl, b218_24]; exact sm_rc O ⟨_, rfl⟩
/-- what is asked -/
theorem q_as (x y w : Int32) : (∃ c n a, c ≤ 2 ∧ n ≤ 7 ∧ a ≤ 1 ∧ x = nI c ∧ y = nI n ∧ w = nI a ∧ ∀ h, zv 3 219 0 [.int x, .int y, .int w] [] h = some (some (.int 1), h)) ∨ ∀ h, zv 3 219 0 [.int x, .int y, .int w] [] h = some (some (.int 0), h) := by
  rcases in_or x 0 2 (by decide) (by decide) with ⟨c, -, hc, ex, hx⟩ | hx
  · rcases in_or y 0 7 (by decide) (by decide) with ⟨n, -, hn, ey, hy⟩ | hy
    · rcases in_or w 0 1 (by decide) (by decide) with ⟨a, -, ha, ew, hw⟩ | hw
      · refine Or.inl ⟨c, n, a, hc, hn, ha, ex, ey, ew, fun h => ?_⟩
        rw [b219_0, q_cly hx]
        simp only [Option.bind_some, Option.toList_some, Option.toList_none, List.cons_append, List.nil_append]
        rw [b219_4, if_neg (by decide), b219_7, show (0 : Int64) = (nI 0).toInt64 from rfl, show (7 : Int64) = (nI 7).toInt64 from rfl, c_iy hy]
        simp only [Option.bind_some, Option.toList_some, Option.toList_none, List.cons_append, List.nil_append]
        rw [b219_16, if_neg (by decide), b219_19, show (0 : Int64) = (nI 0).toInt64 from rfl, show (1 : Int64) = (nI 1).toInt64 from rfl, c_iy hw]
        simp only [Option.bind_some, Option.toList_some, Option.toList_none, List.cons_append, List.nil_append]
        rw [b219_26, if_neg (by decide), b219_29, b219_34 (Or.inr rfl)]
      · refine Or.inr (fun h => ?_)
        rw [b219_0, q_cly hx]
        simp only [Option.bind_some, Option.toList_some, Option.toList_none, List.cons_append, List.nil_append]
        rw [b219_4, if_neg (by decide), b219_7, show (0 : Int64) = (nI 0).toInt64 from rfl, show (7 : Int64) = (nI 7).toInt64 from rfl, c_iy hy]
        simp only [Option.bind_some, Option.toList_some, Option.toList_none, List.cons_append, List.nil_append]
        rw [b219_16, if_neg (by decide), b219_19, show (0 : Int64) = (nI 0).toInt64 from rfl, show (1 : Int64) = (nI 1).toInt64 from rfl, c_iz hw]
        simp only [Option.bind_some, Option.toList_some, Option.toList_none, List.cons_append, List.nil_append]
        rw [b219_26, if_pos rfl, b219_33, b219_34 (Or.inl rfl)]
    · refine Or.inr (fun h => ?_)
      rw [b219_0, q_cly hx]
      simp only [Option.bind_some, Option.toList_some, Option.toList_none, List.cons_append, List.nil_append]
      rw [b219_4, if_neg (by decide), b219_7, show (0 : Int64) = (nI 0).toInt64 from rfl, show (7 : Int64) = (nI 7).toInt64 from rfl, c_iz hy]
      simp only [Option.bind_some, Option.toList_some, Option.toList_none, List.cons_append, List.nil_append]
      rw [b219_16, if_pos rfl, b219_33, b219_34 (Or.inl rfl)]
  · refine Or.inr (fun h => ?_)
    rw [b219_0, q_cln hx]
    simp only [Option.bind_some, Option.toList_some, Option.toList_none, List.cons_append, List.nil_append]
    rw [b219_4, if_pos rfl, b219_33, b219_34 (Or.inl rfl)]
theorem o_answers (O : RO h) (x y w : Int32) : RC h (zv 8 220 0 [.ref 211, .int x, .int y, .int w] [] h) := by
  rcases q_as x y w with ⟨c, n, a, hc, hn, ha, rfl, rfl, rfl, e⟩ | e
  · obtain ⟨h1, e1, O1, F1, -⟩ := o_fr O hn (u2 := .double 0) (u3 := .double 0) (u4 := .double 0)
    have S := O1.1
    have hz : True := trivial
    have hy : ¬ (nI (2 * c + a) < 0 ∨ 6 ≤ (nI (2 * c + a)).toNatClampNeg) := zj_n (by omega) (by decide)
    rw [b220_0, e]
    simp only [Option.bind_some, Option.toList_some, Option.toList_none, List.cons_append, List.nil_append]
    rw [b220_6, if_neg (by decide), b220_11 (S_g0 O.1) (S_g1 O.1), e1]
    simp only [Option.bind_some, Option.toList_some, Option.toList_none, List.cons_append, List.nil_append]
    rw [b220_16 (by simp +decide only [S.n, S.k, S.r, hp_n_wi, hp_k_wi, hp_r_wi, hp_n_wl, hp_k_wl, hp_r_wl, zq_rf, kx_211, kx_212, kx_221, kx_222, kx_223, kx_224, kx_225, kx_226, kx_227, kx_228, kx_229, rx_211_0, rx_211_21, rx_211_22, rx_211_23, rx_211_24, rx_211_25, rx_211_26, rx_211_32, rx_211_33, rx_211_34, hz, hy]) (by simp +decide only [S.n, S.k, S.r, hp_n_wi, hp_k_wi, hp_r_wi, hp_n_wl, hp_k_wl, hp_r_wl, zq_rf, kx_211, kx_212, kx_221, kx_222, kx_223, kx_224, kx_225, kx_226, kx_227, kx_228, kx_229, rx_211_0, rx_211_21, rx_211_22, rx_211_23, rx_211_24, rx_211_25, rx_211_26, rx_211_32, rx_211_33, rx_211_34, hz, hy]) (by simp +decide only [S.n, S.k, S.r, hp_n_wi, hp_k_wi, hp_r_wi, hp_n_wl, hp_k_wl, hp_r_wl, zq_rf, kx_211, kx_212, kx_221, kx_222, kx_223, kx_224, kx_225, kx_226, kx_227, kx_228, kx_229, rx_211_0, rx_211_21, rx_211_22, rx_211_23, rx_211_24, rx_211_25, rx_211_26, rx_211_32, rx_211_33, rx_211_34, hz, hy]) (by simp +decide only [S.n, S.k, S.r, hp_n_wi, hp_k_wi, hp_r_wi, hp_n_wl, hp_k_wl, hp_r_wl, zq_rf, kx_211, kx_212, kx_221, kx_222, kx_223, kx_224, kx_225, kx_226, kx_227, kx_228, kx_229, rx_211_0, rx_211_21, rx_211_22, rx_211_23, rx_211_24, rx_211_25, rx_211_26, rx_211_32, rx_211_33, rx_211_34, hz, hy]) (by rw [nI_i2]; exact (by simp +decide only [S.n, S.k, S.r, hp_n_wi, hp_k_wi, hp_r_wi, hp_n_wl, hp_k_wl, hp_r_wl, zq_rf, kx_211, kx_212, kx_221, kx_222, kx_223, kx_224, kx_225, kx_226, kx_227, kx_228, kx_229, rx_211_0, rx_211_21, rx_211_22, rx_211_23, rx_211_24, rx_211_25, rx_211_26, rx_211_32, rx_211_33, rx_211_34, hz, hy])) (by simp +decide only [S.n, S.k, S.r, hp_n_wi, hp_k_wi, hp_r_wi, hp_n_wl, hp_k_wl, hp_r_wl, zq_rf, kx_211, kx_212, kx_221, kx_222, kx_223, kx_224, kx_225, kx_226, kx_227, kx_228, kx_229, rx_211_0, rx_211_21, rx_211_22, rx_211_23, rx_211_24, rx_211_25, rx_211_26, rx_211_32, rx_211_33, rx_211_34, hz, hy])]
    exact ⟨_, h1, rfl, O1, F1⟩
  · rw [b220_0, e]
    simp only [Option.bind_some, Option.toList_some, Option.toList_none, List.cons_append, List.nil_append]
    rw [b220_6, if_pos rfl, b220_9]; exact sm_rc O ⟨_, rfl⟩
theorem o_first (O : RO h) (x y w : Int32) : RC h (zv 8 221 0 [.ref 211, .int x, .int y, .int w] [] h) := by
  rcases q_as x y w with ⟨c, n, a, hc, hn, ha, rfl, rfl, rfl, e⟩ | e
  · obtain ⟨h1, e1, O1, F1, -⟩ := o_fr O hn (u2 := .double 0) (u3 := .double 0) (u4 := .double 0)
    have S := O1.1
    have hz : True := trivial
    have hy : ¬ (nI (2 * c + a) < 0 ∨ 6 ≤ (nI (2 * c + a)).toNatClampNeg) := zj_n (by omega) (by decide)
    rw [b221_0, e]
    simp only [Option.bind_some, Option.toList_some, Option.toList_none, List.cons_append, List.nil_append]
    rw [b221_6, if_neg (by decide), b221_11 (S_g0 O.1) (S_g1 O.1), e1]
    simp only [Option.bind_some, Option.toList_some, Option.toList_none, List.cons_append, List.nil_append]
    rw [b221_16 (by simp +decide only [S.n, S.k, S.r, hp_n_wi, hp_k_wi, hp_r_wi, hp_n_wl, hp_k_wl, hp_r_wl, zq_rf, kx_211, kx_212, kx_221, kx_222, kx_223, kx_224, kx_225, kx_226, kx_227, kx_228, kx_229, rx_211_0, rx_211_21, rx_211_22, rx_211_23, rx_211_24, rx_211_25, rx_211_26, rx_211_32, rx_211_33, rx_211_34, hz, hy]) (by simp +decide only [S.n, S.k, S.r, hp_n_wi, hp_k_wi, hp_r_wi, hp_n_wl, hp_k_wl, hp_r_wl, zq_rf, kx_211, kx_212, kx_221, kx_222, kx_223, kx_224, kx_225, kx_226, kx_227, kx_228, kx_229, rx_211_0, rx_211_21, rx_211_22, rx_211_23, rx_211_24, rx_211_25, rx_211_26, rx_211_32, rx_211_33, rx_211_34, hz, hy]) (by simp +decide only [S.n, S.k, S.r, hp_n_wi, hp_k_wi, hp_r_wi, hp_n_wl, hp_k_wl, hp_r_wl, zq_rf, kx_211, kx_212, kx_221, kx_222, kx_223, kx_224, kx_225, kx_226, kx_227, kx_228, kx_229, rx_211_0, rx_211_21, rx_211_22, rx_211_23, rx_211_24, rx_211_25, rx_211_26, rx_211_32, rx_211_33, rx_211_34, hz, hy]) (by simp +decide only [S.n, S.k, S.r, hp_n_wi, hp_k_wi, hp_r_wi, hp_n_wl, hp_k_wl, hp_r_wl, zq_rf, kx_211, kx_212, kx_221, kx_222, kx_223, kx_224, kx_225, kx_226, kx_227, kx_228, kx_229, rx_211_0, rx_211_21, rx_211_22, rx_211_23, rx_211_24, rx_211_25, rx_211_26, rx_211_32, rx_211_33, rx_211_34, hz, hy]) (by rw [nI_i2]; exact (by simp +decide only [S.n, S.k, S.r, hp_n_wi, hp_k_wi, hp_r_wi, hp_n_wl, hp_k_wl, hp_r_wl, zq_rf, kx_211, kx_212, kx_221, kx_222, kx_223, kx_224, kx_225, kx_226, kx_227, kx_228, kx_229, rx_211_0, rx_211_21, rx_211_22, rx_211_23, rx_211_24, rx_211_25, rx_211_26, rx_211_32, rx_211_33, rx_211_34, hz, hy])) (by simp +decide only [S.n, S.k, S.r, hp_n_wi, hp_k_wi, hp_r_wi, hp_n_wl, hp_k_wl, hp_r_wl, zq_rf, kx_211, kx_212, kx_221, kx_222, kx_223, kx_224, kx_225, kx_226, kx_227, kx_228, kx_229, rx_211_0, rx_211_21, rx_211_22, rx_211_23, rx_211_24, rx_211_25, rx_211_26, rx_211_32, rx_211_33, rx_211_34, hz, hy])]
    exact ⟨_, h1, rfl, O1, F1⟩
  · rw [b221_0, e]
    simp only [Option.bind_some, Option.toList_some, Option.toList_none, List.cons_append, List.nil_append]
    rw [b221_6, if_pos rfl, b221_9]; exact sm_rc O ⟨_, rfl⟩
/-- a remainder is smaller -/
theorem rem_lt (a b : Int64) (hb : ¬ b = 0) : (a - a / b * b).toInt.natAbs < b.toInt.natAbs := by
  have hb0 : b.toInt ≠ 0 := fun w => hb (Int64.toInt_inj.mp (by rw [w]; rfl))
  have e : (a - a / b * b).toInt = a.toInt.tmod b.toInt := by
    rw [Int64.toInt_sub, Int64.toInt_mul, Int64.toInt_div]
    have h1 : (a.toInt.tdiv b.toInt).bmod (2 ^ 64) * b.toInt = (a.toInt.tdiv b.toInt).bmod (2 ^ 64) * b.toInt := rfl
    rw [Int.bmod_mul_bmod, Int.sub_bmod_bmod]
    have h2 : a.toInt - a.toInt.tdiv b.toInt * b.toInt = a.toInt.tmod b.toInt := by rw [Int.tmod_def, Int.mul_comm]
    rw [h2]
    have h3 := Int64.toInt_lt b
    have h4 := Int64.le_toInt b
    have h5 : (a.toInt.tmod b.toInt).natAbs < b.toInt.natAbs := by
      rw [Int.natAbs_tmod]
      exact Nat.mod_lt _ (by omega)
    exact Int.bmod_eq_of_le (by omega) (by omega)
  rw [e, Int.natAbs_tmod]
  exact Nat.mod_lt _ (by omega)
theorem q_gcd : ∀ k, ∀ {y0 y2 y4 y6 : Int64} {u8 u9 : Value}, y6.toInt.natAbs < k → ¬ y4 = 0 → ∃ y, zv 1 222 6 [.long y0, .double 1, .long y2, .double 1, .long y4, .double 1, .long y6, .double 1, u8, u9] [] h = some (some (.long y), h) ∧ ¬ y = 0 := by
  intro k
  induction k with
  | zero => intro y0 y2 y4 y6 u8 u9 hk; omega
  | succ k ih =>
    intro y0 y2 y4 y6 u8 u9 hk h4
    rw [b222_6]
    by_cases h6 : y6 = 0
    · rw [if_pos (by rw [h6]; decide), b222_31]; exact ⟨_, rfl, h4⟩
    · rw [if_neg (fun w => h6 ((lg_cmp_eq _ _).mp w)), b222_13 h6]
      exact ih (by have := rem_lt y4 y6 h6; omega) h6
/-- what a call that answers a long leaves -/
def RCl (h : zi_Hp) (o : Option zi_Rt) : Prop := ∃ x h', o = some (some (.long x), h') ∧ RO h' ∧ Fr h h'
theorem o_chance (O : RO h) (x y w v : Int32) {u5 u6 : Value} : RCl h (zv 8 223 0 [.ref 211, .int x, .int y, .int w, .int v, u5, u6] [] h) := by
  have bad : RCl h (some (some (.long (-1)), h)) := ⟨_, h, rfl, O, Fr.refl h⟩
  rcases q_as x y w with ⟨c, n, a, hc, hn, ha, rfl, rfl, rfl, e⟩ | e
  · obtain ⟨h1, e1, O1, F1, z1⟩ := o_fr O hn (u2 := .double 0) (u3 := .double 0) (u4 := .double 0)
    have S := O1.1
    have hz : True := trivial
    have hy : ¬ (nI (2 * c + a) < 0 ∨ 6 ≤ (nI (2 * c + a)).toNatClampNeg) := zj_n (by omega) (by decide)
    rw [b223_0, e]
    simp only [Option.bind_some, Option.toList_some, Option.toList_none, List.cons_append, List.nil_append]
    rw [b223_6, if_neg (by decide), b223_9, b196_0, show (0 : Int64) = (0 : Int32).toInt64 from rfl, show (1 : Int64) = (1 : Int32).toInt64 from rfl, c_inI]
    simp only [Option.bind_some, Option.toList_some, Option.toList_none, List.cons_append, List.nil_append]
    by_cases hv : (0 : Int32) ≤ v ∧ v ≤ 1
    · have r26 : zh_r h1 211 26 = .ref 226 := by rw [S.r, rx_211_26]
      rw [if_pos hv, b196_7 (Or.inr rfl)]
      simp only [Option.bind_some, Option.toList_some, Option.toList_none, List.cons_append, List.nil_append]
      rw [b223_14, if_neg (by decide), b223_21 (S_g0 O.1) (S_g1 O.1), e1]
      simp only [Option.bind_some, Option.toList_some, Option.toList_none, List.cons_append, List.nil_append]
      rw [b223_26 (by simp +decide only [S.n, S.k, S.r, hp_n_wi, hp_k_wi, hp_r_wi, hp_n_wl, hp_k_wl, hp_r_wl, zq_rf, kx_211, kx_212, kx_221, kx_222, kx_223, kx_224, kx_225, kx_226, kx_227, kx_228, kx_229, rx_211_0, rx_211_21, rx_211_22, rx_211_23, rx_211_24, rx_211_25, rx_211_26, rx_211_32, rx_211_33, rx_211_34, hz, hy]) (by simp +decide only [S.n, S.k, S.r, hp_n_wi, hp_k_wi, hp_r_wi, hp_n_wl, hp_k_wl, hp_r_wl, zq_rf, kx_211, kx_212, kx_221, kx_222, kx_223, kx_224, kx_225, kx_226, kx_227, kx_228, kx_229, rx_211_0, rx_211_21, rx_211_22, rx_211_23, rx_211_24, rx_211_25, rx_211_26, rx_211_32, rx_211_33, rx_211_34, hz, hy]) (by simp +decide only [S.n, S.k, S.r, hp_n_wi, hp_k_wi, hp_r_wi, hp_n_wl, hp_k_wl, hp_r_wl, zq_rf, kx_211, kx_212, kx_221, kx_222, kx_223, kx_224, kx_225, kx_226, kx_227, kx_228, kx_229, rx_211_0, rx_211_21, rx_211_22, rx_211_23, rx_211_24, rx_211_25, rx_211_26, rx_211_32, rx_211_33, rx_211_34, hz, hy]) (by simp +decide only [S.n, S.k, S.r, hp_n_wi, hp_k_wi, hp_r_wi, hp_n_wl, hp_k_wl, hp_r_wl, zq_rf, kx_211, kx_212, kx_221, kx_222, kx_223, kx_224, kx_225, kx_226, kx_227, kx_228, kx_229, rx_211_0, rx_211_21, rx_211_22, rx_211_23, rx_211_24, rx_211_25, rx_211_26, rx_211_32, rx_211_33, rx_211_34, hz, hy]) (by simp +decide only [S.n, S.k, S.r, hp_n_wi, hp_k_wi, hp_r_wi, hp_n_wl, hp_k_wl, hp_r_wl, zq_rf, kx_211, kx_212, kx_221, kx_222, kx_223, kx_224, kx_225, kx_226, kx_227, kx_228, kx_229, rx_211_0, rx_211_21, rx_211_22, rx_211_23, rx_211_24, rx_211_25, rx_211_26, rx_211_32, rx_211_33, rx_211_34, hz, hy]) (by simp +decide only [S.n, S.k, S.r, hp_n_wi, hp_k_wi, hp_r_wi, hp_n_wl, hp_k_wl, hp_r_wl, zq_rf, kx_211, kx_212, kx_221, kx_222, kx_223, kx_224, kx_225, kx_226, kx_227, kx_228, kx_229, rx_211_0, rx_211_21, rx_211_22, rx_211_23, rx_211_24, rx_211_25, rx_211_26, rx_211_32, rx_211_33, rx_211_34, hz, hy]) (by simp +decide only [S.n, S.k, S.r, hp_n_wi, hp_k_wi, hp_r_wi, hp_n_wl, hp_k_wl, hp_r_wl, zq_rf, kx_211, kx_212, kx_221, kx_222, kx_223, kx_224, kx_225, kx_226, kx_227, kx_228, kx_229, rx_211_0, rx_211_21, rx_211_22, rx_211_23, rx_211_24, rx_211_25, rx_211_26, rx_211_32, rx_211_33, rx_211_34, hz, hy]) (by simp +decide only [S.n, S.k, S.r, hp_n_wi, hp_k_wi, hp_r_wi, hp_n_wl, hp_k_wl, hp_r_wl, zq_rf, kx_211, kx_212, kx_221, kx_222, kx_223, kx_224, kx_225, kx_226, kx_227, kx_228, kx_229, rx_211_0, rx_211_21, rx_211_22, rx_211_23, rx_211_24, rx_211_25, rx_211_26, rx_211_32, rx_211_33, rx_211_34, hz, hy]) (by rw [nI_i2]; exact (by simp +decide only [S.n, S.k, S.r, hp_n_wi, hp_k_wi, hp_r_wi, hp_n_wl, hp_k_wl, hp_r_wl, zq_rf, kx_211, kx_212, kx_221, kx_222, kx_223, kx_224, kx_225, kx_226, kx_227, kx_228, kx_229, rx_211_0, rx_211_21, rx_211_22, rx_211_23, rx_211_24, rx_211_25, rx_211_26, rx_211_32, rx_211_33, rx_211_34, hz, hy])) (by simp +decide only [S.n, S.k, S.r, hp_n_wi, hp_k_wi, hp_r_wi, hp_n_wl, hp_k_wl, hp_r_wl, zq_rf, kx_211, kx_212, kx_221, kx_222, kx_223, kx_224, kx_225, kx_226, kx_227, kx_228, kx_229, rx_211_0, rx_211_21, rx_211_22, rx_211_23, rx_211_24, rx_211_25, rx_211_26, rx_211_32, rx_211_33, rx_211_34, hz, hy]), r26, zq_rf, b222_0]
      generalize zh_l h1 (zq (zh_r h1 211 34)) ((2 : Int32) * nI c + nI a).toNatClampNeg = y2
      obtain ⟨g, eg, ng⟩ := q_gcd (h := h1) (y2.toInt.natAbs + 1) (y0 := zh_l h1 226 0) (y2 := y2) (y4 := zh_l h1 226 0) (y6 := y2) (u8 := .double 0) (u9 := .double 0) (Nat.lt_succ_self _) z1
      rw [eg]
      simp only [Option.bind_some, Option.toList_some, Option.toList_none, List.cons_append, List.nil_append]
      rw [b223_45]
      split
      · rw [b223_52 (by simp +decide only [S.n, S.k, S.r, hp_n_wi, hp_k_wi, hp_r_wi, hp_n_wl, hp_k_wl, hp_r_wl, zq_rf, kx_211, kx_212, kx_221, kx_222, kx_223, kx_224, kx_225, kx_226, kx_227, kx_228, kx_229, rx_211_0, rx_211_21, rx_211_22, rx_211_23, rx_211_24, rx_211_25, rx_211_26, rx_211_32, rx_211_33, rx_211_34, hz, hy]) (by simp +decide only [S.n, S.k, S.r, hp_n_wi, hp_k_wi, hp_r_wi, hp_n_wl, hp_k_wl, hp_r_wl, zq_rf, kx_211, kx_212, kx_221, kx_222, kx_223, kx_224, kx_225, kx_226, kx_227, kx_228, kx_229, rx_211_0, rx_211_21, rx_211_22, rx_211_23, rx_211_24, rx_211_25, rx_211_26, rx_211_32, rx_211_33, rx_211_34, hz, hy]) (by simp +decide only [S.n, S.k, S.r, hp_n_wi, hp_k_wi, hp_r_wi, hp_n_wl, hp_k_wl, hp_r_wl, zq_rf, kx_211, kx_212, kx_221, kx_222, kx_223, kx_224, kx_225, kx_226, kx_227, kx_228, kx_229, rx_211_0, rx_211_21, rx_211_22, rx_211_23, rx_211_24, rx_211_25, rx_211_26, rx_211_32, rx_211_33, rx_211_34, hz, hy]) (by simp +decide only [S.n, S.k, S.r, hp_n_wi, hp_k_wi, hp_r_wi, hp_n_wl, hp_k_wl, hp_r_wl, zq_rf, kx_211, kx_212, kx_221, kx_222, kx_223, kx_224, kx_225, kx_226, kx_227, kx_228, kx_229, rx_211_0, rx_211_21, rx_211_22, rx_211_23, rx_211_24, rx_211_25, rx_211_26, rx_211_32, rx_211_33, rx_211_34, hz, hy]) (by rw [nI_i2]; exact (by simp +decide only [S.n, S.k, S.r, hp_n_wi, hp_k_wi, hp_r_wi, hp_n_wl, hp_k_wl, hp_r_wl, zq_rf, kx_211, kx_212, kx_221, kx_222, kx_223, kx_224, kx_225, kx_226, kx_227, kx_228, kx_229, rx_211_0, rx_211_21, rx_211_22, rx_211_23, rx_211_24, rx_211_25, rx_211_26, rx_211_32, rx_211_33, rx_211_34, hz, hy])) (by simp +decide only [S.n, S.k, S.r, hp_n_wi, hp_k_wi, hp_r_wi, hp_n_wl, hp_k_wl, hp_r_wl, zq_rf, kx_211, kx_212, kx_221, kx_222, kx_223, kx_224, kx_225, kx_226, kx_227, kx_228, kx_229, rx_211_0, rx_211_21, rx_211_22, rx_211_23, rx_211_24, rx_211_25, rx_211_26, rx_211_32, rx_211_33, rx_211_34, hz, hy]) ng, b223_77]; exact ⟨_, h1, rfl, O1, F1⟩
      · rw [b223_68 (by simp +decide only [S.n, S.k, S.r, hp_n_wi, hp_k_wi, hp_r_wi, hp_n_wl, hp_k_wl, hp_r_wl, zq_rf, kx_211, kx_212, kx_221, kx_222, kx_223, kx_224, kx_225, kx_226, kx_227, kx_228, kx_229, rx_211_0, rx_211_21, rx_211_22, rx_211_23, rx_211_24, rx_211_25, rx_211_26, rx_211_32, rx_211_33, rx_211_34, hz, hy]) (by simp +decide only [S.n, S.k, S.r, hp_n_wi, hp_k_wi, hp_r_wi, hp_n_wl, hp_k_wl, hp_r_wl, zq_rf, kx_211, kx_212, kx_221, kx_222, kx_223, kx_224, kx_225, kx_226, kx_227, kx_228, kx_229, rx_211_0, rx_211_21, rx_211_22, rx_211_23, rx_211_24, rx_211_25, rx_211_26, rx_211_32, rx_211_33, rx_211_34, hz, hy]) (by simp +decide only [S.n, S.k, S.r, hp_n_wi, hp_k_wi, hp_r_wi, hp_n_wl, hp_k_wl, hp_r_wl, zq_rf, kx_211, kx_212, kx_221, kx_222, kx_223, kx_224, kx_225, kx_226, kx_227, kx_228, kx_229, rx_211_0, rx_211_21, rx_211_22, rx_211_23, rx_211_24, rx_211_25, rx_211_26, rx_211_32, rx_211_33, rx_211_34, hz, hy]) (by simp +decide only [S.n, S.k, S.r, hp_n_wi, hp_k_wi, hp_r_wi, hp_n_wl, hp_k_wl, hp_r_wl, zq_rf, kx_211, kx_212, kx_221, kx_222, kx_223, kx_224, kx_225, kx_226, kx_227, kx_228, kx_229, rx_211_0, rx_211_21, rx_211_22, rx_211_23, rx_211_24, rx_211_25, rx_211_26, rx_211_32, rx_211_33, rx_211_34, hz, hy]) (by simp +decide only [S.n, S.k, S.r, hp_n_wi, hp_k_wi, hp_r_wi, hp_n_wl, hp_k_wl, hp_r_wl, zq_rf, kx_211, kx_212, kx_221, kx_222, kx_223, kx_224, kx_225, kx_226, kx_227, kx_228, kx_229, rx_211_0, rx_211_21, rx_211_22, rx_211_23, rx_211_24, rx_211_25, rx_211_26, rx_211_32, rx_211_33, rx_211_34, hz, hy]) (by simp +decide only [S.n, S.k, S.r, hp_n_wi, hp_k_wi, hp_r_wi, hp_n_wl, hp_k_wl, hp_r_wl, zq_rf, kx_211, kx_212, kx_221, kx_222, kx_223, kx_224, kx_225, kx_226, kx_227, kx_228, kx_229, rx_211_0, rx_211_21, rx_211_22, rx_211_23, rx_211_24, rx_211_25, rx_211_26, rx_211_32, rx_211_33, rx_211_34, hz, hy]) ng, b223_77]; exact ⟨_, h1, rfl, O1, F1⟩
    · rw [if_neg hv, b196_7 (Or.inl rfl)]
      simp only [Option.bind_some, Option.toList_some, Option.toList_none, List.cons_append, List.nil_append]
      rw [b223_14, if_pos rfl, b223_17]; exact bad
  · rw [b223_0, e]
    simp only [Option.bind_some, Option.toList_some, Option.toList_none, List.cons_append, List.nil_append]
    rw [b223_6, if_pos rfl, b223_17]; exact bad
end R24F
