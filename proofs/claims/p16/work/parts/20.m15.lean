section
/-! THE REFERENCE's rows: what they leave as it was -/
/-- cells of the tape, the sheets, the last word too -/
def Fq (h h' : zi_Hp) : Prop := Fr h h' ∧ (∀ j, zh_i h' 218 j = zh_i h 218 j ∧ zh_i h' 232 j = zh_i h 232 j) ∧ zh_i h' 211 38 = zh_i h 211 38
theorem Fq.refl (h : zi_Hp) : Fq h h := ⟨Fr.refl h, fun _ => ⟨rfl, rfl⟩, rfl⟩
theorem Fq.trans {a b c : zi_Hp} (p : Fq a b) (q : Fq b c) : Fq a c := ⟨p.1.trans q.1, fun j => ⟨(q.2.1 j).1.trans (p.2.1 j).1, (q.2.1 j).2.trans (p.2.1 j).2⟩, q.2.2.trans p.2.2⟩
theorem Fq.wi {h : zi_Hp} {a k : Nat} {v : Int32} (ha : 211 ≤ a) (hk : (a ≠ 211 ∨ (k ≠ 8 ∧ k ≠ 38)) ∧ a ≠ 218 ∧ a ≠ 230 ∧ a ≠ 231 ∧ a ≠ 232 := by omega) : Fq h (zh_wi h a k v) := ⟨Fr.wi ha, fun j => ⟨by rw [hp_i_wi, if_neg (by omega)], by rw [hp_i_wi, if_neg (by omega)]⟩, by rw [hp_i_wi, if_neg (by omega)]⟩
theorem Fq.wl {h : zi_Hp} {a k : Nat} {v : Int64} (ha : 211 ≤ a) : Fq h (zh_wl h a k v) := ⟨Fr.wl ha, fun _ => ⟨rfl, rfl⟩, rfl⟩
theorem Fq.ci {h : zi_Hp} {a b c d e : Nat} (ha : 211 ≤ c) (hc : c ≠ 211 ∧ c ≠ 218 ∧ c ≠ 230 ∧ c ≠ 231 ∧ c ≠ 232 := by omega) : Fq h (zh_ci h a b c d e) := ⟨Fr.ci ha, fun j => ⟨by rw [hp_i_ci, if_neg (by omega)], by rw [hp_i_ci, if_neg (by omega)]⟩, by rw [hp_i_ci, if_neg (by omega)]⟩
theorem Fq.zQ {h : zi_Hp} {q : zQs} {s : Nat → Int32} : Fq h (zQ h q s) := ⟨Fr.zQ, fun j => ⟨zQ_o j (by decide) (by decide) (by decide) (by decide), zQ_o j (by decide) (by decide) (by decide) (by decide)⟩, zQ_211 (by decide)⟩
/-- and its state, its images -/
def Fz (h h' : zi_Hp) : Prop := Fq h h' ∧ (∀ j, j < 387 → zh_i h' 212 j = zh_i h 212 j) ∧ (∀ j, zh_i h' 213 j = zh_i h 213 j) ∧ ∀ j, zh_b h' 214 j = zh_b h 214 j
theorem Fz.refl {h : zi_Hp} : Fz h h := ⟨Fq.refl h, fun _ _ => rfl, fun _ => rfl, fun _ => rfl⟩
def RCq (h : zi_Hp) (o : Option zi_Rt) : Prop := ∃ x h', o = some (some (.int x), h') ∧ RO h' ∧ Fz h h'
theorem sm_rq {h : zi_Hp} {o : Option zi_Rt} (O : RO h) (e : ∃ x, o = some (some (.int x), h)) : RCq h o := by
  obtain ⟨x, e⟩ := e
  exact ⟨x, h, e, O, Fz.refl⟩
section R34T
variable {h : zi_Hp}
/-- cells of the tally alone have changed -/
def Tq (h h' : zi_Hp) : Prop := Sh h' ∧ Fq h h' ∧ (∀ a j, a ≠ 227 → a ≠ 228 → ¬ (a = 211 ∧ 27 ≤ j) → zh_i h' a j = zh_i h a j) ∧ (∀ a j, zh_b h' a j = zh_b h a j) ∧ (∀ a j, a ≠ 229 → zh_l h' a j = zh_l h a j)
theorem Tq.refl (S : Sh h) : Tq h h := ⟨S, Fq.refl h, fun _ _ _ _ _ => rfl, fun _ _ => rfl, fun _ _ _ => rfl⟩
theorem Tq.trans {a b c : zi_Hp} (p : Tq a b) (q : Tq b c) : Tq a c := ⟨q.1, p.2.1.trans q.2.1, fun x j h1 h2 h3 => (q.2.2.1 x j h1 h2 h3).trans (p.2.2.1 x j h1 h2 h3), fun x j => (q.2.2.2.1 x j).trans (p.2.2.2.1 x j), fun x j hx => (q.2.2.2.2 x j hx).trans (p.2.2.2.2 x j hx)⟩
theorem Tq.wi {a k : Nat} {v : Int32} (S : Sh h) (ha : a = 227 ∨ a = 228 ∨ (a = 211 ∧ 27 ≤ k ∧ k < 38)) : Tq h (zh_wi h a k v) := ⟨S.wi _ _ _, Fq.wi (by omega), fun x j h1 h2 h3 => by rw [hp_i_wi, if_neg (by omega)], fun _ _ => rfl, fun _ _ _ => rfl⟩
theorem Tq.wl {k : Nat} {v : Int64} (S : Sh h) : Tq h (zh_wl h 229 k v) := ⟨S.wl _ _ _, Fq.wl (by decide), fun x j _ _ _ => rfl, fun _ _ => rfl, fun x j hx => by rw [hp_l_wl, if_neg (by omega)]⟩
theorem re_tq (S : Sh h) {d c : Nat} (hd : d < 8) (hc : c < 3) {x2 x3 : Int32} {u5 u6 u7 : Value} : ∃ y2 y3 v5 v6 v7 h', zv 2 213 81 [.ref 211, .int (nI d), .int x2, .int x3, .int (nI c), u5, u6, u7] [] h = zv 2 213 81 [.ref 211, .int (nI d), .int y2, .int y3, .int (nI (c + 1)), v5, v6, v7] [] h' ∧ Tq h h' := by
  have e3 : nI c < 3 := nI_lt (b := 3) hc (by decide)
  have hz : ¬ (nI d < 0 ∨ 8 ≤ (nI d).toNatClampNeg) := zj_n (by omega) (by decide)
  rw [b213_81, if_pos e3, b213_87 (S_g0 S) (S_g1 S), r_oc0 S hc]
  simp only [Option.bind_some, Option.toList_some, Option.toList_none, List.cons_append, List.nil_append]
  rw [b213_94 (S_g0 S) (S_g1 S), r_oc4 S hc]
  simp only [Option.bind_some, Option.toList_some, Option.toList_none, List.cons_append, List.nil_append]
  generalize zh_i h 212 (315 + 24 * c) = st
  generalize zh_i h 212 (315 + 24 * c + 4) = an
  have m1 : ∃ y, zv 2 213 103 [.ref 211, .int (nI d), .int x2, .int x3, .int (nI c), .int st, u6, u7] [.int an] h = zv 2 213 122 [.ref 211, .int (nI d), .int x2, .int x3, .int (nI c), .int st, .int an, u7] [.int y] h := by
    rw [b213_103]
    split
    · rw [b213_121]; exact ⟨_, rfl⟩
    · obtain ⟨y, ey⟩ := on_any (h := h) (x := st)
      rw [b213_109, ey]
      simp only [Option.bind_some, Option.toList_some, Option.toList_none, List.cons_append, List.nil_append]
      rw [b213_114]
      split
      · rw [b213_117]; exact ⟨_, rfl⟩
      · rw [b213_121]; exact ⟨_, rfl⟩
  obtain ⟨y, ey⟩ := m1
  rw [ey, b213_122]
  by_cases h0 : st = 0
  · rw [if_pos h0, b213_249, nI_s]; exact ⟨_, _, _, _, _, h, rfl, Tq.refl S⟩
  · rw [if_neg h0, b213_128, show (0 : Int64) = (nI 0).toInt64 from rfl, show (1 : Int64) = (nI 1).toInt64 from rfl]
    rcases in_or an 0 1 (by decide) (by decide) with ⟨a, -, ha, rfl, hx⟩ | hx
    · have hy : ¬ (nI (2 * c + a) < 0 ∨ 6 ≤ (nI (2 * c + a)).toNatClampNeg) := zj_n (by omega) (by decide)
      have r33 : zh_r h 211 33 = .ref 228 := by rw [S.r, rx_211_33]
      have r32 : zh_r h 211 32 = .ref 227 := by rw [S.r, rx_211_32]
      have r34 : zh_r h 211 34 = .ref 229 := by rw [S.r, rx_211_34]
      rw [c_iy hx]
      simp only [Option.bind_some, Option.toList_some, Option.toList_none, List.cons_append, List.nil_append]
      rw [b213_136, if_neg (by decide), b213_139 (by simp +decide only [S.n, S.k, S.r, hp_n_wi, hp_k_wi, hp_r_wi, hp_n_wl, hp_k_wl, hp_r_wl, zq_rf, kx_211, kx_212, kx_221, kx_222, kx_223, kx_224, kx_225, kx_226, kx_227, kx_228, kx_229, rx_211_0, rx_211_21, rx_211_22, rx_211_23, rx_211_24, rx_211_25, rx_211_26, rx_211_32, rx_211_33, rx_211_34, hz, hy]) (by simp +decide only [S.n, S.k, S.r, hp_n_wi, hp_k_wi, hp_r_wi, hp_n_wl, hp_k_wl, hp_r_wl, zq_rf, kx_211, kx_212, kx_221, kx_222, kx_223, kx_224, kx_225, kx_226, kx_227, kx_228, kx_229, rx_211_0, rx_211_21, rx_211_22, rx_211_23, rx_211_24, rx_211_25, rx_211_26, rx_211_32, rx_211_33, rx_211_34, hz, hy]) (by simp +decide only [S.n, S.k, S.r, hp_n_wi, hp_k_wi, hp_r_wi, hp_n_wl, hp_k_wl, hp_r_wl, zq_rf, kx_211, kx_212, kx_221, kx_222, kx_223, kx_224, kx_225, kx_226, kx_227, kx_228, kx_229, rx_211_0, rx_211_21, rx_211_22, rx_211_23, rx_211_24, rx_211_25, rx_211_26, rx_211_32, rx_211_33, rx_211_34, hz, hy]) (by simp +decide only [S.n, S.k, S.r, hp_n_wi, hp_k_wi, hp_r_wi, hp_n_wl, hp_k_wl, hp_r_wl, zq_rf, kx_211, kx_212, kx_221, kx_222, kx_223, kx_224, kx_225, kx_226, kx_227, kx_228, kx_229, rx_211_0, rx_211_21, rx_211_22, rx_211_23, rx_211_24, rx_211_25, rx_211_26, rx_211_32, rx_211_33, rx_211_34, hz, hy]) (by simp +decide only [S.n, S.k, S.r, hp_n_wi, hp_k_wi, hp_r_wi, hp_n_wl, hp_k_wl, hp_r_wl, zq_rf, kx_211, kx_212, kx_221, kx_222, kx_223, kx_224, kx_225, kx_226, kx_227, kx_228, kx_229, rx_211_0, rx_211_21, rx_211_22, rx_211_23, rx_211_24, rx_211_25, rx_211_26, rx_211_32, rx_211_33, rx_211_34, hz, hy]) (by rw [nI_i2]; exact (by simp +decide only [S.n, S.k, S.r, hp_n_wi, hp_k_wi, hp_r_wi, hp_n_wl, hp_k_wl, hp_r_wl, zq_rf, kx_211, kx_212, kx_221, kx_222, kx_223, kx_224, kx_225, kx_226, kx_227, kx_228, kx_229, rx_211_0, rx_211_21, rx_211_22, rx_211_23, rx_211_24, rx_211_25, rx_211_26, rx_211_32, rx_211_33, rx_211_34, hz, hy])) (by simp +decide only [S.n, S.k, S.r, hp_n_wi, hp_k_wi, hp_r_wi, hp_n_wl, hp_k_wl, hp_r_wl, zq_rf, kx_211, kx_212, kx_221, kx_222, kx_223, kx_224, kx_225, kx_226, kx_227, kx_228, kx_229, rx_211_0, rx_211_21, rx_211_22, rx_211_23, rx_211_24, rx_211_25, rx_211_26, rx_211_32, rx_211_33, rx_211_34, hz, hy]), nI_i2, r32, r33, zq_rf, zq_rf]
      have m2 : ∃ v, (if zh_i h 227 (nI (2 * c + a)).toNatClampNeg = 0 then zv 2 213 164 [.ref 211, .int (nI d), .int y, .int x3, .int (nI c), .int st, .int (nI a), .int (nI (2 * c + a))] [.int (nI (2 * c + a)), .ref 228] h else zv 2 213 173 [.ref 211, .int (nI d), .int y, .int x3, .int (nI c), .int st, .int (nI a), .int (nI (2 * c + a))] [.int (nI (2 * c + a)), .ref 228] h) = zv 2 213 180 [.ref 211, .int (nI d), .int y, .int x3, .int (nI c), .int st, .int (nI a), .int (nI (2 * c + a))] [.int v, .int (nI (2 * c + a)), .ref 228] h := by
        split
        · rw [b213_164 (by simp +decide only [S.n, S.k, S.r, hp_n_wi, hp_k_wi, hp_r_wi, hp_n_wl, hp_k_wl, hp_r_wl, zq_rf, kx_211, kx_212, kx_221, kx_222, kx_223, kx_224, kx_225, kx_226, kx_227, kx_228, kx_229, rx_211_0, rx_211_21, rx_211_22, rx_211_23, rx_211_24, rx_211_25, rx_211_26, rx_211_32, rx_211_33, rx_211_34, hz, hy]) (by simp +decide only [S.n, S.k, S.r, hp_n_wi, hp_k_wi, hp_r_wi, hp_n_wl, hp_k_wl, hp_r_wl, zq_rf, kx_211, kx_212, kx_221, kx_222, kx_223, kx_224, kx_225, kx_226, kx_227, kx_228, kx_229, rx_211_0, rx_211_21, rx_211_22, rx_211_23, rx_211_24, rx_211_25, rx_211_26, rx_211_32, rx_211_33, rx_211_34, hz, hy]) (by simp +decide only [S.n, S.k, S.r, hp_n_wi, hp_k_wi, hp_r_wi, hp_n_wl, hp_k_wl, hp_r_wl, zq_rf, kx_211, kx_212, kx_221, kx_222, kx_223, kx_224, kx_225, kx_226, kx_227, kx_228, kx_229, rx_211_0, rx_211_21, rx_211_22, rx_211_23, rx_211_24, rx_211_25, rx_211_26, rx_211_32, rx_211_33, rx_211_34, hz, hy]) (by simp +decide only [S.n, S.k, S.r, hp_n_wi, hp_k_wi, hp_r_wi, hp_n_wl, hp_k_wl, hp_r_wl, zq_rf, kx_211, kx_212, kx_221, kx_222, kx_223, kx_224, kx_225, kx_226, kx_227, kx_228, kx_229, rx_211_0, rx_211_21, rx_211_22, rx_211_23, rx_211_24, rx_211_25, rx_211_26, rx_211_32, rx_211_33, rx_211_34, hz, hy]) (by simp +decide only [S.n, S.k, S.r, hp_n_wi, hp_k_wi, hp_r_wi, hp_n_wl, hp_k_wl, hp_r_wl, zq_rf, kx_211, kx_212, kx_221, kx_222, kx_223, kx_224, kx_225, kx_226, kx_227, kx_228, kx_229, rx_211_0, rx_211_21, rx_211_22, rx_211_23, rx_211_24, rx_211_25, rx_211_26, rx_211_32, rx_211_33, rx_211_34, hz, hy]) (by simp +decide only [S.n, S.k, S.r, hp_n_wi, hp_k_wi, hp_r_wi, hp_n_wl, hp_k_wl, hp_r_wl, zq_rf, kx_211, kx_212, kx_221, kx_222, kx_223, kx_224, kx_225, kx_226, kx_227, kx_228, kx_229, rx_211_0, rx_211_21, rx_211_22, rx_211_23, rx_211_24, rx_211_25, rx_211_26, rx_211_32, rx_211_33, rx_211_34, hz, hy])]; exact ⟨_, rfl⟩
        · rw [b213_173 (by simp +decide only [S.n, S.k, S.r, hp_n_wi, hp_k_wi, hp_r_wi, hp_n_wl, hp_k_wl, hp_r_wl, zq_rf, kx_211, kx_212, kx_221, kx_222, kx_223, kx_224, kx_225, kx_226, kx_227, kx_228, kx_229, rx_211_0, rx_211_21, rx_211_22, rx_211_23, rx_211_24, rx_211_25, rx_211_26, rx_211_32, rx_211_33, rx_211_34, hz, hy]) (by simp +decide only [S.n, S.k, S.r, hp_n_wi, hp_k_wi, hp_r_wi, hp_n_wl, hp_k_wl, hp_r_wl, zq_rf, kx_211, kx_212, kx_221, kx_222, kx_223, kx_224, kx_225, kx_226, kx_227, kx_228, kx_229, rx_211_0, rx_211_21, rx_211_22, rx_211_23, rx_211_24, rx_211_25, rx_211_26, rx_211_32, rx_211_33, rx_211_34, hz, hy]) (by simp +decide only [S.n, S.k, S.r, hp_n_wi, hp_k_wi, hp_r_wi, hp_n_wl, hp_k_wl, hp_r_wl, zq_rf, kx_211, kx_212, kx_221, kx_222, kx_223, kx_224, kx_225, kx_226, kx_227, kx_228, kx_229, rx_211_0, rx_211_21, rx_211_22, rx_211_23, rx_211_24, rx_211_25, rx_211_26, rx_211_32, rx_211_33, rx_211_34, hz, hy]) (by simp +decide only [S.n, S.k, S.r, hp_n_wi, hp_k_wi, hp_r_wi, hp_n_wl, hp_k_wl, hp_r_wl, zq_rf, kx_211, kx_212, kx_221, kx_222, kx_223, kx_224, kx_225, kx_226, kx_227, kx_228, kx_229, rx_211_0, rx_211_21, rx_211_22, rx_211_23, rx_211_24, rx_211_25, rx_211_26, rx_211_32, rx_211_33, rx_211_34, hz, hy]) (by simp +decide only [S.n, S.k, S.r, hp_n_wi, hp_k_wi, hp_r_wi, hp_n_wl, hp_k_wl, hp_r_wl, zq_rf, kx_211, kx_212, kx_221, kx_222, kx_223, kx_224, kx_225, kx_226, kx_227, kx_228, kx_229, rx_211_0, rx_211_21, rx_211_22, rx_211_23, rx_211_24, rx_211_25, rx_211_26, rx_211_32, rx_211_33, rx_211_34, hz, hy]) (by simp +decide only [S.n, S.k, S.r, hp_n_wi, hp_k_wi, hp_r_wi, hp_n_wl, hp_k_wl, hp_r_wl, zq_rf, kx_211, kx_212, kx_221, kx_222, kx_223, kx_224, kx_225, kx_226, kx_227, kx_228, kx_229, rx_211_0, rx_211_21, rx_211_22, rx_211_23, rx_211_24, rx_211_25, rx_211_26, rx_211_32, rx_211_33, rx_211_34, hz, hy])]; exact ⟨_, rfl⟩
      obtain ⟨v, ev⟩ := m2
      rw [ev, b213_180 (by simp +decide only [S.n, S.k, S.r, hp_n_wi, hp_k_wi, hp_r_wi, hp_n_wl, hp_k_wl, hp_r_wl, zq_rf, kx_211, kx_212, kx_221, kx_222, kx_223, kx_224, kx_225, kx_226, kx_227, kx_228, kx_229, rx_211_0, rx_211_21, rx_211_22, rx_211_23, rx_211_24, rx_211_25, rx_211_26, rx_211_32, rx_211_33, rx_211_34, hz, hy]) (by simp +decide only [S.n, S.k, S.r, hp_n_wi, hp_k_wi, hp_r_wi, hp_n_wl, hp_k_wl, hp_r_wl, zq_rf, kx_211, kx_212, kx_221, kx_222, kx_223, kx_224, kx_225, kx_226, kx_227, kx_228, kx_229, rx_211_0, rx_211_21, rx_211_22, rx_211_23, rx_211_24, rx_211_25, rx_211_26, rx_211_32, rx_211_33, rx_211_34, hz, hy]) (by simp +decide only [S.n, S.k, S.r, hp_n_wi, hp_k_wi, hp_r_wi, hp_n_wl, hp_k_wl, hp_r_wl, zq_rf, kx_211, kx_212, kx_221, kx_222, kx_223, kx_224, kx_225, kx_226, kx_227, kx_228, kx_229, rx_211_0, rx_211_21, rx_211_22, rx_211_23, rx_211_24, rx_211_25, rx_211_26, rx_211_32, rx_211_33, rx_211_34, hz, hy]) (by simp +decide only [S.n, S.k, S.r, hp_n_wi, hp_k_wi, hp_r_wi, hp_n_wl, hp_k_wl, hp_r_wl, zq_rf, kx_211, kx_212, kx_221, kx_222, kx_223, kx_224, kx_225, kx_226, kx_227, kx_228, kx_229, rx_211_0, rx_211_21, rx_211_22, rx_211_23, rx_211_24, rx_211_25, rx_211_26, rx_211_32, rx_211_33, rx_211_34, hz, hy]) (by simp +decide only [S.n, S.k, S.r, hp_n_wi, hp_k_wi, hp_r_wi, hp_n_wl, hp_k_wl, hp_r_wl, zq_rf, kx_211, kx_212, kx_221, kx_222, kx_223, kx_224, kx_225, kx_226, kx_227, kx_228, kx_229, rx_211_0, rx_211_21, rx_211_22, rx_211_23, rx_211_24, rx_211_25, rx_211_26, rx_211_32, rx_211_33, rx_211_34, hz, hy]) (by simp +decide only [S.n, S.k, S.r, hp_n_wi, hp_k_wi, hp_r_wi, hp_n_wl, hp_k_wl, hp_r_wl, zq_rf, kx_211, kx_212, kx_221, kx_222, kx_223, kx_224, kx_225, kx_226, kx_227, kx_228, kx_229, rx_211_0, rx_211_21, rx_211_22, rx_211_23, rx_211_24, rx_211_25, rx_211_26, rx_211_32, rx_211_33, rx_211_34, hz, hy]), r32, zq_rf, b213_188 (by simp +decide only [S.n, S.k, S.r, hp_n_wi, hp_k_wi, hp_r_wi, hp_n_wl, hp_k_wl, hp_r_wl, zq_rf, kx_211, kx_212, kx_221, kx_222, kx_223, kx_224, kx_225, kx_226, kx_227, kx_228, kx_229, rx_211_0, rx_211_21, rx_211_22, rx_211_23, rx_211_24, rx_211_25, rx_211_26, rx_211_32, rx_211_33, rx_211_34, hz, hy]) (by simp +decide only [S.n, S.k, S.r, hp_n_wi, hp_k_wi, hp_r_wi, hp_n_wl, hp_k_wl, hp_r_wl, zq_rf, kx_211, kx_212, kx_221, kx_222, kx_223, kx_224, kx_225, kx_226, kx_227, kx_228, kx_229, rx_211_0, rx_211_21, rx_211_22, rx_211_23, rx_211_24, rx_211_25, rx_211_26, rx_211_32, rx_211_33, rx_211_34, hz, hy]) (by simp +decide only [S.n, S.k, S.r, hp_n_wi, hp_k_wi, hp_r_wi, hp_n_wl, hp_k_wl, hp_r_wl, zq_rf, kx_211, kx_212, kx_221, kx_222, kx_223, kx_224, kx_225, kx_226, kx_227, kx_228, kx_229, rx_211_0, rx_211_21, rx_211_22, rx_211_23, rx_211_24, rx_211_25, rx_211_26, rx_211_32, rx_211_33, rx_211_34, hz, hy]) (by simp +decide only [S.n, S.k, S.r, hp_n_wi, hp_k_wi, hp_r_wi, hp_n_wl, hp_k_wl, hp_r_wl, zq_rf, kx_211, kx_212, kx_221, kx_222, kx_223, kx_224, kx_225, kx_226, kx_227, kx_228, kx_229, rx_211_0, rx_211_21, rx_211_22, rx_211_23, rx_211_24, rx_211_25, rx_211_26, rx_211_32, rx_211_33, rx_211_34, hz, hy]) (by simp +decide only [S.n, S.k, S.r, hp_n_wi, hp_k_wi, hp_r_wi, hp_n_wl, hp_k_wl, hp_r_wl, zq_rf, kx_211, kx_212, kx_221, kx_222, kx_223, kx_224, kx_225, kx_226, kx_227, kx_228, kx_229, rx_211_0, rx_211_21, rx_211_22, rx_211_23, rx_211_24, rx_211_25, rx_211_26, rx_211_32, rx_211_33, rx_211_34, hz, hy]) (by simp +decide only [S.n, S.k, S.r, hp_n_wi, hp_k_wi, hp_r_wi, hp_n_wl, hp_k_wl, hp_r_wl, zq_rf, kx_211, kx_212, kx_221, kx_222, kx_223, kx_224, kx_225, kx_226, kx_227, kx_228, kx_229, rx_211_0, rx_211_21, rx_211_22, rx_211_23, rx_211_24, rx_211_25, rx_211_26, rx_211_32, rx_211_33, rx_211_34, hz, hy]) (by simp +decide only [S.n, S.k, S.r, hp_n_wi, hp_k_wi, hp_r_wi, hp_n_wl, hp_k_wl, hp_r_wl, zq_rf, kx_211, kx_212, kx_221, kx_222, kx_223, kx_224, kx_225, kx_226, kx_227, kx_228, kx_229, rx_211_0, rx_211_21, rx_211_22, rx_211_23, rx_211_24, rx_211_25, rx_211_26, rx_211_32, rx_211_33, rx_211_34, hz, hy]) (by simp +decide only [S.n, S.k, S.r, hp_n_wi, hp_k_wi, hp_r_wi, hp_n_wl, hp_k_wl, hp_r_wl, zq_rf, kx_211, kx_212, kx_221, kx_222, kx_223, kx_224, kx_225, kx_226, kx_227, kx_228, kx_229, rx_211_0, rx_211_21, rx_211_22, rx_211_23, rx_211_24, rx_211_25, rx_211_26, rx_211_32, rx_211_33, rx_211_34, hz, hy]) (by simp +decide only [S.n, S.k, S.r, hp_n_wi, hp_k_wi, hp_r_wi, hp_n_wl, hp_k_wl, hp_r_wl, zq_rf, kx_211, kx_212, kx_221, kx_222, kx_223, kx_224, kx_225, kx_226, kx_227, kx_228, kx_229, rx_211_0, rx_211_21, rx_211_22, rx_211_23, rx_211_24, rx_211_25, rx_211_26, rx_211_32, rx_211_33, rx_211_34, hz, hy])]
      have T2 : ∀ {v1 v2 : Int32} {k1 k2 : Nat}, Tq h (zh_wi (zh_wi h 228 k1 v1) 227 k2 v2) := fun {v1 v2 k1 k2} => (Tq.wi S (by omega)).trans (Tq.wi (S.wi _ _ _) (by omega))
      rw [hp_r_wi, r34, zq_rf, b213_199 (by simp +decide only [S.n, S.k, S.r, hp_n_wi, hp_k_wi, hp_r_wi, hp_n_wl, hp_k_wl, hp_r_wl, zq_rf, kx_211, kx_212, kx_221, kx_222, kx_223, kx_224, kx_225, kx_226, kx_227, kx_228, kx_229, rx_211_0, rx_211_21, rx_211_22, rx_211_23, rx_211_24, rx_211_25, rx_211_26, rx_211_32, rx_211_33, rx_211_34, hz, hy]) (by simp +decide only [S.n, S.k, S.r, hp_n_wi, hp_k_wi, hp_r_wi, hp_n_wl, hp_k_wl, hp_r_wl, zq_rf, kx_211, kx_212, kx_221, kx_222, kx_223, kx_224, kx_225, kx_226, kx_227, kx_228, kx_229, rx_211_0, rx_211_21, rx_211_22, rx_211_23, rx_211_24, rx_211_25, rx_211_26, rx_211_32, rx_211_33, rx_211_34, hz, hy]) (by simp +decide only [S.n, S.k, S.r, hp_n_wi, hp_k_wi, hp_r_wi, hp_n_wl, hp_k_wl, hp_r_wl, zq_rf, kx_211, kx_212, kx_221, kx_222, kx_223, kx_224, kx_225, kx_226, kx_227, kx_228, kx_229, rx_211_0, rx_211_21, rx_211_22, rx_211_23, rx_211_24, rx_211_25, rx_211_26, rx_211_32, rx_211_33, rx_211_34, hz, hy]) (by simp +decide only [S.n, S.k, S.r, hp_n_wi, hp_k_wi, hp_r_wi, hp_n_wl, hp_k_wl, hp_r_wl, zq_rf, kx_211, kx_212, kx_221, kx_222, kx_223, kx_224, kx_225, kx_226, kx_227, kx_228, kx_229, rx_211_0, rx_211_21, rx_211_22, rx_211_23, rx_211_24, rx_211_25, rx_211_26, rx_211_32, rx_211_33, rx_211_34, hz, hy]) (by simp +decide only [S.n, S.k, S.r, hp_n_wi, hp_k_wi, hp_r_wi, hp_n_wl, hp_k_wl, hp_r_wl, zq_rf, kx_211, kx_212, kx_221, kx_222, kx_223, kx_224, kx_225, kx_226, kx_227, kx_228, kx_229, rx_211_0, rx_211_21, rx_211_22, rx_211_23, rx_211_24, rx_211_25, rx_211_26, rx_211_32, rx_211_33, rx_211_34, hz, hy]) (by simp +decide only [S.n, S.k, S.r, hp_n_wi, hp_k_wi, hp_r_wi, hp_n_wl, hp_k_wl, hp_r_wl, zq_rf, kx_211, kx_212, kx_221, kx_222, kx_223, kx_224, kx_225, kx_226, kx_227, kx_228, kx_229, rx_211_0, rx_211_21, rx_211_22, rx_211_23, rx_211_24, rx_211_25, rx_211_26, rx_211_32, rx_211_33, rx_211_34, hz, hy]) (by simp +decide only [S.n, S.k, S.r, hp_n_wi, hp_k_wi, hp_r_wi, hp_n_wl, hp_k_wl, hp_r_wl, zq_rf, kx_211, kx_212, kx_221, kx_222, kx_223, kx_224, kx_225, kx_226, kx_227, kx_228, kx_229, rx_211_0, rx_211_21, rx_211_22, rx_211_23, rx_211_24, rx_211_25, rx_211_26, rx_211_32, rx_211_33, rx_211_34, hz, hy]) (by simp +decide only [S.n, S.k, S.r, hp_n_wi, hp_k_wi, hp_r_wi, hp_n_wl, hp_k_wl, hp_r_wl, zq_rf, kx_211, kx_212, kx_221, kx_222, kx_223, kx_224, kx_225, kx_226, kx_227, kx_228, kx_229, rx_211_0, rx_211_21, rx_211_22, rx_211_23, rx_211_24, rx_211_25, rx_211_26, rx_211_32, rx_211_33, rx_211_34, hz, hy]) (by simp +decide only [S.n, S.k, S.r, hp_n_wi, hp_k_wi, hp_r_wi, hp_n_wl, hp_k_wl, hp_r_wl, zq_rf, kx_211, kx_212, kx_221, kx_222, kx_223, kx_224, kx_225, kx_226, kx_227, kx_228, kx_229, rx_211_0, rx_211_21, rx_211_22, rx_211_23, rx_211_24, rx_211_25, rx_211_26, rx_211_32, rx_211_33, rx_211_34, hz, hy]) (by simp +decide only [S.n, S.k, S.r, hp_n_wi, hp_k_wi, hp_r_wi, hp_n_wl, hp_k_wl, hp_r_wl, zq_rf, kx_211, kx_212, kx_221, kx_222, kx_223, kx_224, kx_225, kx_226, kx_227, kx_228, kx_229, rx_211_0, rx_211_21, rx_211_22, rx_211_23, rx_211_24, rx_211_25, rx_211_26, rx_211_32, rx_211_33, rx_211_34, hz, hy]) (by simp +decide only [S.n, S.k, S.r, hp_n_wi, hp_k_wi, hp_r_wi, hp_n_wl, hp_k_wl, hp_r_wl, zq_rf, kx_211, kx_212, kx_221, kx_222, kx_223, kx_224, kx_225, kx_226, kx_227, kx_228, kx_229, rx_211_0, rx_211_21, rx_211_22, rx_211_23, rx_211_24, rx_211_25, rx_211_26, rx_211_32, rx_211_33, rx_211_34, hz, hy]) (by simp +decide only [S.n, S.k, S.r, hp_n_wi, hp_k_wi, hp_r_wi, hp_n_wl, hp_k_wl, hp_r_wl, zq_rf, kx_211, kx_212, kx_221, kx_222, kx_223, kx_224, kx_225, kx_226, kx_227, kx_228, kx_229, rx_211_0, rx_211_21, rx_211_22, rx_211_23, rx_211_24, rx_211_25, rx_211_26, rx_211_32, rx_211_33, rx_211_34, hz, hy])]
      have m3 : ∀ h3, Sh h3 → ∃ y', (if x3 = 0 then zv 2 213 212 [.ref 211, .int (nI d), .int y, .int x3, .int (nI c), .int st, .int (nI a), .int (nI (2 * c + a))] [] h3 else zv 2 213 243 [.ref 211, .int (nI d), .int y, .int x3, .int (nI c), .int st, .int (nI a), .int (nI (2 * c + a))] [] h3) = zv 2 213 248 [.ref 211, .int (nI d), .int y, .int x3, .int (nI c), .int st, .int (nI a), .int (nI (2 * c + a))] [.int y'] h3 := fun h3 S3 => by
        split
        · rw [b213_212]
          split
          · rw [b213_218 (S_g0 S3) (S_g1 S3), r_oc1 S3 hc]
            simp only [Option.bind_some, Option.toList_some, Option.toList_none, List.cons_append, List.nil_append]
            rw [b213_225]
            split
            · rw [b213_228 (S_g0 S3) (S_g1 S3), r_oc5 S3 hc]
              simp only [Option.bind_some, Option.toList_some, Option.toList_none, List.cons_append, List.nil_append]
              rw [b213_235]
              split
              · rw [b213_243]; exact ⟨_, rfl⟩
              · rw [b213_247]; exact ⟨_, rfl⟩
            · rw [b213_247]; exact ⟨_, rfl⟩
          · rw [b213_247]; exact ⟨_, rfl⟩
        · rw [b213_243]; exact ⟨_, rfl⟩
      have T3 : ∀ {v1 v2 : Int32} {v3 : Int64} {k1 k2 k3 : Nat}, Tq h (zh_wl (zh_wi (zh_wi h 228 k1 v1) 227 k2 v2) 229 k3 v3) := fun {v1 v2 v3 k1 k2 k3} => T2.trans (Tq.wl ((S.wi _ _ _).wi _ _ _))
      have m4 : ∀ h3, Tq h h3 → ∃ y2 y3 v5 v6 v7 h', (if x3 = 0 then zv 2 213 212 [.ref 211, .int (nI d), .int y, .int x3, .int (nI c), .int st, .int (nI a), .int (nI (2 * c + a))] [] h3 else zv 2 213 243 [.ref 211, .int (nI d), .int y, .int x3, .int (nI c), .int st, .int (nI a), .int (nI (2 * c + a))] [] h3) = zv 2 213 81 [.ref 211, .int (nI d), .int y2, .int y3, .int (nI (c + 1)), v5, v6, v7] [] h' ∧ Tq h h' := fun h3 T => by
        obtain ⟨y', ey'⟩ := m3 h3 T.1
        rw [ey', b213_248, b213_249, nI_s]
        exact ⟨_, _, _, _, _, _, rfl, T⟩
      exact m4 _ T3
    · rw [c_iz hx]
      simp only [Option.bind_some, Option.toList_some, Option.toList_none, List.cons_append, List.nil_append]
      rw [b213_136, if_pos rfl, b213_249, nI_s]; exact ⟨_, _, _, _, _, h, rfl, Tq.refl S⟩
theorem u_rq (S : Sh h) {d : Nat} (hd : d < 8) {u2 u3 u4 u5 u6 u7 : Value} : ∃ h', zv 2 213 0 [.ref 211, .int (nI d), u2, u3, u4, u5, u6, u7] [] h = some (none, h') ∧ Tq h h' := by
  have hz : ¬ (nI d < 0 ∨ 8 ≤ (nI d).toNatClampNeg) := zj_n (by omega) (by decide)
  have hy : ¬ ((312 : Int32) < 0 ∨ 387 ≤ (312 : Int32).toNatClampNeg) := by decide
  have r0 : zh_r h 211 0 = .ref 212 := by rw [S.r, rx_211_0]
  have r25 : zh_r h 211 25 = .ref 225 := by rw [S.r, rx_211_25]
  have fin : ∀ h3, Sh h3 → Tq h h3 → ∃ h', zv 2 213 81 [.ref 211, .int (nI d), .int 1, .int 0, .int 0, u5, u6, u7] [] h3 = some (none, h') ∧ Tq h h' := fun h3 S3 T3 => by
    obtain ⟨y2, y3, v5, v6, v7, h4, e4, T4⟩ := re_tq S3 hd (c := 0) (by decide) (x2 := 1) (x3 := 0) (u5 := u5) (u6 := u6) (u7 := u7)
    obtain ⟨z2, z3, w5, w6, w7, h5, e5, T5⟩ := re_tq T4.1 hd (c := 1) (by decide) (x2 := y2) (x3 := y3) (u5 := v5) (u6 := v6) (u7 := v7)
    obtain ⟨a2, a3, b5, b6, b7, h6, e6, T6⟩ := re_tq T5.1 hd (c := 2) (by decide) (x2 := z2) (x3 := z3) (u5 := w5) (u6 := w6) (u7 := w7)
    rw [show (0 : Int32) = nI 0 from rfl] at e4 ⊢
    have S6 := T6.1
    rw [e4, e5, e6, b213_81, if_neg (by decide), b213_255 (S_g0 S6) (S_g1 S6), r_flag]
    simp only [Option.bind_some, Option.toList_some, Option.toList_none, List.cons_append, List.nil_append]
    rw [b213_264 (S_g0 S6) (S_g1 S6), b213_270 (S_g0 (S6.wi _ _ _)) (S_g1 (S6.wi _ _ _)), r_flag]
    simp only [Option.bind_some, Option.toList_some, Option.toList_none, List.cons_append, List.nil_append]
    rw [b213_277 (S_g0 (S6.wi _ _ _)) (S_g1 (S6.wi _ _ _))]
    exact ⟨_, rfl, (((T3.trans T4).trans T5).trans T6).trans ((Tq.wi S6 (by omega)).trans (Tq.wi (S6.wi _ _ _) (by omega)))⟩
  rw [b213_0 (by simp +decide only [S.n, S.k, S.r, hp_n_wi, hp_k_wi, hp_r_wi, hp_n_wl, hp_k_wl, hp_r_wl, zq_rf, kx_211, kx_212, kx_221, kx_222, kx_223, kx_224, kx_225, kx_226, kx_227, kx_228, kx_229, rx_211_0, rx_211_21, rx_211_22, rx_211_23, rx_211_24, rx_211_25, rx_211_26, rx_211_32, rx_211_33, rx_211_34, hz, hy]) (by simp +decide only [S.n, S.k, S.r, hp_n_wi, hp_k_wi, hp_r_wi, hp_n_wl, hp_k_wl, hp_r_wl, zq_rf, kx_211, kx_212, kx_221, kx_222, kx_223, kx_224, kx_225, kx_226, kx_227, kx_228, kx_229, rx_211_0, rx_211_21, rx_211_22, rx_211_23, rx_211_24, rx_211_25, rx_211_26, rx_211_32, rx_211_33, rx_211_34, hz, hy]) (by simp +decide only [S.n, S.k, S.r, hp_n_wi, hp_k_wi, hp_r_wi, hp_n_wl, hp_k_wl, hp_r_wl, zq_rf, kx_211, kx_212, kx_221, kx_222, kx_223, kx_224, kx_225, kx_226, kx_227, kx_228, kx_229, rx_211_0, rx_211_21, rx_211_22, rx_211_23, rx_211_24, rx_211_25, rx_211_26, rx_211_32, rx_211_33, rx_211_34, hz, hy]), r0, zq_rf, b213_22 (by simp +decide only [S.n, S.k, S.r, hp_n_wi, hp_k_wi, hp_r_wi, hp_n_wl, hp_k_wl, hp_r_wl, zq_rf, kx_211, kx_212, kx_221, kx_222, kx_223, kx_224, kx_225, kx_226, kx_227, kx_228, kx_229, rx_211_0, rx_211_21, rx_211_22, rx_211_23, rx_211_24, rx_211_25, rx_211_26, rx_211_32, rx_211_33, rx_211_34, hz, hy]) (by simp +decide only [S.n, S.k, S.r, hp_n_wi, hp_k_wi, hp_r_wi, hp_n_wl, hp_k_wl, hp_r_wl, zq_rf, kx_211, kx_212, kx_221, kx_222, kx_223, kx_224, kx_225, kx_226, kx_227, kx_228, kx_229, rx_211_0, rx_211_21, rx_211_22, rx_211_23, rx_211_24, rx_211_25, rx_211_26, rx_211_32, rx_211_33, rx_211_34, hz, hy]) (by simp +decide only [S.n, S.k, S.r, hp_n_wi, hp_k_wi, hp_r_wi, hp_n_wl, hp_k_wl, hp_r_wl, zq_rf, kx_211, kx_212, kx_221, kx_222, kx_223, kx_224, kx_225, kx_226, kx_227, kx_228, kx_229, rx_211_0, rx_211_21, rx_211_22, rx_211_23, rx_211_24, rx_211_25, rx_211_26, rx_211_32, rx_211_33, rx_211_34, hz, hy]) (by simp +decide only [S.n, S.k, S.r, hp_n_wi, hp_k_wi, hp_r_wi, hp_n_wl, hp_k_wl, hp_r_wl, zq_rf, kx_211, kx_212, kx_221, kx_222, kx_223, kx_224, kx_225, kx_226, kx_227, kx_228, kx_229, rx_211_0, rx_211_21, rx_211_22, rx_211_23, rx_211_24, rx_211_25, rx_211_26, rx_211_32, rx_211_33, rx_211_34, hz, hy]) (by simp +decide only [S.n, S.k, S.r, hp_n_wi, hp_k_wi, hp_r_wi, hp_n_wl, hp_k_wl, hp_r_wl, zq_rf, kx_211, kx_212, kx_221, kx_222, kx_223, kx_224, kx_225, kx_226, kx_227, kx_228, kx_229, rx_211_0, rx_211_21, rx_211_22, rx_211_23, rx_211_24, rx_211_25, rx_211_26, rx_211_32, rx_211_33, rx_211_34, hz, hy])]
  have m1 : ∀ h1, Sh h1 → ∃ v, (if zh_i h1 211 29 < zh_i h1 212 (312 : Int32).toNatClampNeg then zv 2 213 30 [.ref 211, .int (nI d), .int 1, .int 0, u4, u5, u6, u7] [.ref 211] h1 else zv 2 213 41 [.ref 211, .int (nI d), .int 1, .int 0, u4, u5, u6, u7] [.ref 211] h1) = zv 2 213 45 [.ref 211, .int (nI d), .int 1, .int 0, u4, u5, u6, u7] [.int v, .ref 211] h1 := fun h1 S => by
    split
    · rw [b213_30 (by simp +decide only [S.n, S.k, S.r, hp_n_wi, hp_k_wi, hp_r_wi, hp_n_wl, hp_k_wl, hp_r_wl, zq_rf, kx_211, kx_212, kx_221, kx_222, kx_223, kx_224, kx_225, kx_226, kx_227, kx_228, kx_229, rx_211_0, rx_211_21, rx_211_22, rx_211_23, rx_211_24, rx_211_25, rx_211_26, rx_211_32, rx_211_33, rx_211_34, hz, hy]) (by simp +decide only [S.n, S.k, S.r, hp_n_wi, hp_k_wi, hp_r_wi, hp_n_wl, hp_k_wl, hp_r_wl, zq_rf, kx_211, kx_212, kx_221, kx_222, kx_223, kx_224, kx_225, kx_226, kx_227, kx_228, kx_229, rx_211_0, rx_211_21, rx_211_22, rx_211_23, rx_211_24, rx_211_25, rx_211_26, rx_211_32, rx_211_33, rx_211_34, hz, hy]) (by simp +decide only [S.n, S.k, S.r, hp_n_wi, hp_k_wi, hp_r_wi, hp_n_wl, hp_k_wl, hp_r_wl, zq_rf, kx_211, kx_212, kx_221, kx_222, kx_223, kx_224, kx_225, kx_226, kx_227, kx_228, kx_229, rx_211_0, rx_211_21, rx_211_22, rx_211_23, rx_211_24, rx_211_25, rx_211_26, rx_211_32, rx_211_33, rx_211_34, hz, hy]) (by simp +decide only [S.n, S.k, S.r, hp_n_wi, hp_k_wi, hp_r_wi, hp_n_wl, hp_k_wl, hp_r_wl, zq_rf, kx_211, kx_212, kx_221, kx_222, kx_223, kx_224, kx_225, kx_226, kx_227, kx_228, kx_229, rx_211_0, rx_211_21, rx_211_22, rx_211_23, rx_211_24, rx_211_25, rx_211_26, rx_211_32, rx_211_33, rx_211_34, hz, hy]) (by simp +decide only [S.n, S.k, S.r, hp_n_wi, hp_k_wi, hp_r_wi, hp_n_wl, hp_k_wl, hp_r_wl, zq_rf, kx_211, kx_212, kx_221, kx_222, kx_223, kx_224, kx_225, kx_226, kx_227, kx_228, kx_229, rx_211_0, rx_211_21, rx_211_22, rx_211_23, rx_211_24, rx_211_25, rx_211_26, rx_211_32, rx_211_33, rx_211_34, hz, hy]) (by simp +decide only [S.n, S.k, S.r, hp_n_wi, hp_k_wi, hp_r_wi, hp_n_wl, hp_k_wl, hp_r_wl, zq_rf, kx_211, kx_212, kx_221, kx_222, kx_223, kx_224, kx_225, kx_226, kx_227, kx_228, kx_229, rx_211_0, rx_211_21, rx_211_22, rx_211_23, rx_211_24, rx_211_25, rx_211_26, rx_211_32, rx_211_33, rx_211_34, hz, hy])]; exact ⟨_, rfl⟩
    · rw [b213_41 (by simp +decide only [S.n, S.k, S.r, hp_n_wi, hp_k_wi, hp_r_wi, hp_n_wl, hp_k_wl, hp_r_wl, zq_rf, kx_211, kx_212, kx_221, kx_222, kx_223, kx_224, kx_225, kx_226, kx_227, kx_228, kx_229, rx_211_0, rx_211_21, rx_211_22, rx_211_23, rx_211_24, rx_211_25, rx_211_26, rx_211_32, rx_211_33, rx_211_34, hz, hy]) (by simp +decide only [S.n, S.k, S.r, hp_n_wi, hp_k_wi, hp_r_wi, hp_n_wl, hp_k_wl, hp_r_wl, zq_rf, kx_211, kx_212, kx_221, kx_222, kx_223, kx_224, kx_225, kx_226, kx_227, kx_228, kx_229, rx_211_0, rx_211_21, rx_211_22, rx_211_23, rx_211_24, rx_211_25, rx_211_26, rx_211_32, rx_211_33, rx_211_34, hz, hy])]; exact ⟨_, rfl⟩
  obtain ⟨v, ev⟩ := m1 _ (S.wi 211 27 (zh_i h 211 27 + 1))
  rw [ev, b213_45 (by simp +decide only [S.n, S.k, S.r, hp_n_wi, hp_k_wi, hp_r_wi, hp_n_wl, hp_k_wl, hp_r_wl, zq_rf, kx_211, kx_212, kx_221, kx_222, kx_223, kx_224, kx_225, kx_226, kx_227, kx_228, kx_229, rx_211_0, rx_211_21, rx_211_22, rx_211_23, rx_211_24, rx_211_25, rx_211_26, rx_211_32, rx_211_33, rx_211_34, hz, hy]) (by simp +decide only [S.n, S.k, S.r, hp_n_wi, hp_k_wi, hp_r_wi, hp_n_wl, hp_k_wl, hp_r_wl, zq_rf, kx_211, kx_212, kx_221, kx_222, kx_223, kx_224, kx_225, kx_226, kx_227, kx_228, kx_229, rx_211_0, rx_211_21, rx_211_22, rx_211_23, rx_211_24, rx_211_25, rx_211_26, rx_211_32, rx_211_33, rx_211_34, hz, hy]) (by simp +decide only [S.n, S.k, S.r, hp_n_wi, hp_k_wi, hp_r_wi, hp_n_wl, hp_k_wl, hp_r_wl, zq_rf, kx_211, kx_212, kx_221, kx_222, kx_223, kx_224, kx_225, kx_226, kx_227, kx_228, kx_229, rx_211_0, rx_211_21, rx_211_22, rx_211_23, rx_211_24, rx_211_25, rx_211_26, rx_211_32, rx_211_33, rx_211_34, hz, hy]) (by simp +decide only [S.n, S.k, S.r, hp_n_wi, hp_k_wi, hp_r_wi, hp_n_wl, hp_k_wl, hp_r_wl, zq_rf, kx_211, kx_212, kx_221, kx_222, kx_223, kx_224, kx_225, kx_226, kx_227, kx_228, kx_229, rx_211_0, rx_211_21, rx_211_22, rx_211_23, rx_211_24, rx_211_25, rx_211_26, rx_211_32, rx_211_33, rx_211_34, hz, hy]) (by simp +decide only [S.n, S.k, S.r, hp_n_wi, hp_k_wi, hp_r_wi, hp_n_wl, hp_k_wl, hp_r_wl, zq_rf, kx_211, kx_212, kx_221, kx_222, kx_223, kx_224, kx_225, kx_226, kx_227, kx_228, kx_229, rx_211_0, rx_211_21, rx_211_22, rx_211_23, rx_211_24, rx_211_25, rx_211_26, rx_211_32, rx_211_33, rx_211_34, hz, hy]), hp_r_wi, r25, zq_rf, b213_54 (by simp +decide only [S.n, S.k, S.r, hp_n_wi, hp_k_wi, hp_r_wi, hp_n_wl, hp_k_wl, hp_r_wl, zq_rf, kx_211, kx_212, kx_221, kx_222, kx_223, kx_224, kx_225, kx_226, kx_227, kx_228, kx_229, rx_211_0, rx_211_21, rx_211_22, rx_211_23, rx_211_24, rx_211_25, rx_211_26, rx_211_32, rx_211_33, rx_211_34, hz, hy]) (by simp +decide only [S.n, S.k, S.r, hp_n_wi, hp_k_wi, hp_r_wi, hp_n_wl, hp_k_wl, hp_r_wl, zq_rf, kx_211, kx_212, kx_221, kx_222, kx_223, kx_224, kx_225, kx_226, kx_227, kx_228, kx_229, rx_211_0, rx_211_21, rx_211_22, rx_211_23, rx_211_24, rx_211_25, rx_211_26, rx_211_32, rx_211_33, rx_211_34, hz, hy]) (by simp +decide only [S.n, S.k, S.r, hp_n_wi, hp_k_wi, hp_r_wi, hp_n_wl, hp_k_wl, hp_r_wl, zq_rf, kx_211, kx_212, kx_221, kx_222, kx_223, kx_224, kx_225, kx_226, kx_227, kx_228, kx_229, rx_211_0, rx_211_21, rx_211_22, rx_211_23, rx_211_24, rx_211_25, rx_211_26, rx_211_32, rx_211_33, rx_211_34, hz, hy]) (by simp +decide only [S.n, S.k, S.r, hp_n_wi, hp_k_wi, hp_r_wi, hp_n_wl, hp_k_wl, hp_r_wl, zq_rf, kx_211, kx_212, kx_221, kx_222, kx_223, kx_224, kx_225, kx_226, kx_227, kx_228, kx_229, rx_211_0, rx_211_21, rx_211_22, rx_211_23, rx_211_24, rx_211_25, rx_211_26, rx_211_32, rx_211_33, rx_211_34, hz, hy]) (by simp +decide only [S.n, S.k, S.r, hp_n_wi, hp_k_wi, hp_r_wi, hp_n_wl, hp_k_wl, hp_r_wl, zq_rf, kx_211, kx_212, kx_221, kx_222, kx_223, kx_224, kx_225, kx_226, kx_227, kx_228, kx_229, rx_211_0, rx_211_21, rx_211_22, rx_211_23, rx_211_24, rx_211_25, rx_211_26, rx_211_32, rx_211_33, rx_211_34, hz, hy])]
  have m2 : ∀ h1, Sh h1 → ∃ v, (if zh_i h1 211 30 < zh_i h1 225 (nI d).toNatClampNeg then zv 2 213 62 [.ref 211, .int (nI d), .int 1, .int 0, u4, u5, u6, u7] [.ref 211] h1 else zv 2 213 71 [.ref 211, .int (nI d), .int 1, .int 0, u4, u5, u6, u7] [.ref 211] h1) = zv 2 213 75 [.ref 211, .int (nI d), .int 1, .int 0, u4, u5, u6, u7] [.int v, .ref 211] h1 := fun h1 S => by
    split
    · rw [b213_62 (by simp +decide only [S.n, S.k, S.r, hp_n_wi, hp_k_wi, hp_r_wi, hp_n_wl, hp_k_wl, hp_r_wl, zq_rf, kx_211, kx_212, kx_221, kx_222, kx_223, kx_224, kx_225, kx_226, kx_227, kx_228, kx_229, rx_211_0, rx_211_21, rx_211_22, rx_211_23, rx_211_24, rx_211_25, rx_211_26, rx_211_32, rx_211_33, rx_211_34, hz, hy]) (by simp +decide only [S.n, S.k, S.r, hp_n_wi, hp_k_wi, hp_r_wi, hp_n_wl, hp_k_wl, hp_r_wl, zq_rf, kx_211, kx_212, kx_221, kx_222, kx_223, kx_224, kx_225, kx_226, kx_227, kx_228, kx_229, rx_211_0, rx_211_21, rx_211_22, rx_211_23, rx_211_24, rx_211_25, rx_211_26, rx_211_32, rx_211_33, rx_211_34, hz, hy]) (by simp +decide only [S.n, S.k, S.r, hp_n_wi, hp_k_wi, hp_r_wi, hp_n_wl, hp_k_wl, hp_r_wl, zq_rf, kx_211, kx_212, kx_221, kx_222, kx_223, kx_224, kx_225, kx_226, kx_227, kx_228, kx_229, rx_211_0, rx_211_21, rx_211_22, rx_211_23, rx_211_24, rx_211_25, rx_211_26, rx_211_32, rx_211_33, rx_211_34, hz, hy]) (by simp +decide only [S.n, S.k, S.r, hp_n_wi, hp_k_wi, hp_r_wi, hp_n_wl, hp_k_wl, hp_r_wl, zq_rf, kx_211, kx_212, kx_221, kx_222, kx_223, kx_224, kx_225, kx_226, kx_227, kx_228, kx_229, rx_211_0, rx_211_21, rx_211_22, rx_211_23, rx_211_24, rx_211_25, rx_211_26, rx_211_32, rx_211_33, rx_211_34, hz, hy]) (by simp +decide only [S.n, S.k, S.r, hp_n_wi, hp_k_wi, hp_r_wi, hp_n_wl, hp_k_wl, hp_r_wl, zq_rf, kx_211, kx_212, kx_221, kx_222, kx_223, kx_224, kx_225, kx_226, kx_227, kx_228, kx_229, rx_211_0, rx_211_21, rx_211_22, rx_211_23, rx_211_24, rx_211_25, rx_211_26, rx_211_32, rx_211_33, rx_211_34, hz, hy]) (by simp +decide only [S.n, S.k, S.r, hp_n_wi, hp_k_wi, hp_r_wi, hp_n_wl, hp_k_wl, hp_r_wl, zq_rf, kx_211, kx_212, kx_221, kx_222, kx_223, kx_224, kx_225, kx_226, kx_227, kx_228, kx_229, rx_211_0, rx_211_21, rx_211_22, rx_211_23, rx_211_24, rx_211_25, rx_211_26, rx_211_32, rx_211_33, rx_211_34, hz, hy])]; exact ⟨_, rfl⟩
    · rw [b213_71 (by simp +decide only [S.n, S.k, S.r, hp_n_wi, hp_k_wi, hp_r_wi, hp_n_wl, hp_k_wl, hp_r_wl, zq_rf, kx_211, kx_212, kx_221, kx_222, kx_223, kx_224, kx_225, kx_226, kx_227, kx_228, kx_229, rx_211_0, rx_211_21, rx_211_22, rx_211_23, rx_211_24, rx_211_25, rx_211_26, rx_211_32, rx_211_33, rx_211_34, hz, hy]) (by simp +decide only [S.n, S.k, S.r, hp_n_wi, hp_k_wi, hp_r_wi, hp_n_wl, hp_k_wl, hp_r_wl, zq_rf, kx_211, kx_212, kx_221, kx_222, kx_223, kx_224, kx_225, kx_226, kx_227, kx_228, kx_229, rx_211_0, rx_211_21, rx_211_22, rx_211_23, rx_211_24, rx_211_25, rx_211_26, rx_211_32, rx_211_33, rx_211_34, hz, hy])]; exact ⟨_, rfl⟩
  obtain ⟨v2, ev2⟩ := m2 _ ((S.wi 211 27 (zh_i h 211 27 + 1)).wi 211 29 v)
  rw [ev2, b213_75 (by simp +decide only [S.n, S.k, S.r, hp_n_wi, hp_k_wi, hp_r_wi, hp_n_wl, hp_k_wl, hp_r_wl, zq_rf, kx_211, kx_212, kx_221, kx_222, kx_223, kx_224, kx_225, kx_226, kx_227, kx_228, kx_229, rx_211_0, rx_211_21, rx_211_22, rx_211_23, rx_211_24, rx_211_25, rx_211_26, rx_211_32, rx_211_33, rx_211_34, hz, hy]) (by simp +decide only [S.n, S.k, S.r, hp_n_wi, hp_k_wi, hp_r_wi, hp_n_wl, hp_k_wl, hp_r_wl, zq_rf, kx_211, kx_212, kx_221, kx_222, kx_223, kx_224, kx_225, kx_226, kx_227, kx_228, kx_229, rx_211_0, rx_211_21, rx_211_22, rx_211_23, rx_211_24, rx_211_25, rx_211_26, rx_211_32, rx_211_33, rx_211_34, hz, hy])]
  exact fin _ (((S.wi _ _ _).wi _ _ _).wi _ _ _) (((Tq.wi S (by omega)).trans (Tq.wi (S.wi _ _ _) (by omega))).trans (Tq.wi ((S.wi _ _ _).wi _ _ _) (by omega)))
/-- the walk has worked behind a depth: what lies before it is as it was -/
def Wq (D : Nat) (h h' : zi_Hp) : Prop := Sh h' ∧ Fq h h' ∧ (zh_i h' 211 8 = zh_i h 211 8 ∧ (∀ j, zh_i h' 213 j = zh_i h 213 j) ∧ (∀ j, zh_b h' 214 j = zh_b h 214 j) ∧ (∀ j, zh_i h' 231 j = zh_i h 231 j)) ∧ (∀ j, j < 387 * (D + 1) → zh_i h' 221 j = zh_i h 221 j) ∧ (∀ j, j < D → zh_i h' 222 j = zh_i h 222 j) ∧ (∀ j, j ≤ D → zh_i h' 223 j = zh_i h 223 j) ∧ zh_l h' 226 0 = zh_l h 226 0
theorem Wq.refl {D : Nat} (S : Sh h) : Wq D h h := ⟨S, Fq.refl h, ⟨rfl, fun _ => rfl, fun _ => rfl, fun _ => rfl⟩, fun _ _ => rfl, fun _ _ => rfl, fun _ _ => rfl, rfl⟩
theorem Wq.trans {D : Nat} {a b c : zi_Hp} (p : Wq D a b) (q : Wq D b c) : Wq D a c := by
  obtain ⟨-, p2, ⟨p3, p4, p5, p6⟩, p7, p8, p9, p10⟩ := p
  obtain ⟨q1, q2, ⟨q3, q4, q5, q6⟩, q7, q8, q9, q10⟩ := q
  exact ⟨q1, p2.trans q2, ⟨q3.trans p3, fun j => (q4 j).trans (p4 j), fun j => (q5 j).trans (p5 j), fun j => (q6 j).trans (p6 j)⟩, fun j hj => (q7 j hj).trans (p7 j hj), fun j hj => (q8 j hj).trans (p8 j hj), fun j hj => (q9 j hj).trans (p9 j hj), q10.trans p10⟩
theorem Wq.up {D : Nat} {a b : zi_Hp} (p : Wq (D + 1) a b) : Wq D a b := by
  obtain ⟨p1, p2, p3, p7, p8, p9, p10⟩ := p
  exact ⟨p1, p2, p3, fun j hj => p7 j (by omega), fun j hj => p8 j (by omega), fun j hj => p9 j (by omega), p10⟩
theorem Wq.rk {D : Nat} {a b : zi_Hp} (p : Wq D a b) (k : RK a) : RK b := k.same p.2.2.1.1 p.2.2.1.2.1 p.2.2.1.2.2.1 p.2.2.1.2.2.2
theorem Tq.ws {D : Nat} {h' : zi_Hp} (p : Tq h h') : Wq D h h' := by
  obtain ⟨p1, p2, p3, p4, p5⟩ := p
  exact ⟨p1, p2, ⟨p3 _ _ (by decide) (by decide) (by decide), fun j => p3 _ _ (by decide) (by decide) (by omega), fun j => p4 _ _, fun j => p3 _ _ (by decide) (by decide) (by omega)⟩, fun j _ => p3 _ _ (by decide) (by decide) (by omega), fun j _ => p3 _ _ (by decide) (by decide) (by omega), fun j _ => p3 _ _ (by decide) (by decide) (by omega), p5 _ _ (by decide)⟩
/-- a write behind the depth -/
theorem Wq.wi {D a k : Nat} {v : Int32} (S : Sh h) (ha : a = 212 ∨ a = 224 ∨ a = 225 ∨ (a = 222 ∧ D ≤ k) ∨ (a = 223 ∧ D < k)) : Wq D h (zh_wi h a k v) := ⟨S.wi _ _ _, Fq.wi (by omega), ⟨by rw [hp_i_wi, if_neg (by omega)], fun j => by rw [hp_i_wi, if_neg (by omega)], fun _ => rfl, fun j => by rw [hp_i_wi, if_neg (by omega)]⟩, fun j hj => by rw [hp_i_wi, if_neg (by omega)], fun j hj => by rw [hp_i_wi, if_neg (by omega)], fun j hj => by rw [hp_i_wi, if_neg (by omega)], rfl⟩
theorem Wq.wl {D k : Nat} {v : Int64} (S : Sh h) (hk : 0 < k) : Wq D h (zh_wl h 226 k v) := ⟨S.wl _ _ _, Fq.wl (by decide), ⟨rfl, fun j => rfl, fun _ => rfl, fun j => rfl⟩, fun j hj => rfl, fun j hj => rfl, fun j hj => rfl, by rw [hp_l_wl, if_neg (by omega)]⟩
theorem Wq.zQ {D : Nat} {q : zQs} {s : Nat → Int32} (S : Sh h) : Wq D h (zQ h q s) := ⟨zQ_S S, Fq.zQ, ⟨zQ_211 (by decide), fun j => zQ_o j (by decide) (by decide) (by decide) (by decide), fun j => zQ_bo j (by decide), fun j => zQ_o j (by decide) (by decide) (by decide) (by decide)⟩, fun j _ => zQ_o j (by decide) (by decide) (by decide) (by decide), fun j _ => zQ_o j (by decide) (by decide) (by decide) (by decide), fun j _ => zQ_o j (by decide) (by decide) (by decide) (by decide), rfl⟩
theorem Wq.re {D d : Nat} (S : Sh h) : Wq D h (zh_ci h 221 (387 * d) 212 0 387) := ⟨S.ci _ _ _ _ _, Fq.ci (by decide), ⟨by rw [hp_i_ci, if_neg (by omega)], fun j => by rw [hp_i_ci, if_neg (by omega)], fun _ => rfl, fun j => by rw [hp_i_ci, if_neg (by omega)]⟩, fun j hj => by rw [hp_i_ci, if_neg (by omega)], fun j hj => by rw [hp_i_ci, if_neg (by omega)], fun j hj => by rw [hp_i_ci, if_neg (by omega)], rfl⟩
theorem Wq.sa {D : Nat} (S : Sh h) : Wq D h (zh_ci h 212 0 221 (387 * (D + 1)) 387) := ⟨S.ci _ _ _ _ _, Fq.ci (by decide), ⟨by rw [hp_i_ci, if_neg (by omega)], fun j => by rw [hp_i_ci, if_neg (by omega)], fun _ => rfl, fun j => by rw [hp_i_ci, if_neg (by omega)]⟩, fun j hj => by rw [hp_i_ci, if_neg (by omega)], fun j hj => by rw [hp_i_ci, if_neg (by omega)], fun j hj => by rw [hp_i_ci, if_neg (by omega)], rfl⟩
/-- a state is come to -/
theorem u_cq (S : Sh h) (J : Inv (zh_i h 212)) {D n : Nat} (hD : D ≤ n) (hn : n ≤ 7) : ∃ (b : Bool) (h' : zi_Hp), zv 6 215 0 [.ref 211, .int (nI D), .int (nI n)] [] h = some (some (.int (zi_bI b)), h') ∧ Sh h' ∧ Fq h h' ∧ (zh_i h' 211 8 = zh_i h 211 8 ∧ (∀ j, zh_i h' 213 j = zh_i h 213 j) ∧ (∀ j, zh_b h' 214 j = zh_b h 214 j) ∧ (∀ j, zh_i h' 231 j = zh_i h 231 j)) ∧ (∀ j, j < 387 * D → zh_i h' 221 j = zh_i h 221 j) ∧ (∀ j, j < D → zh_i h' 222 j = zh_i h 222 j) ∧ (∀ j, j < D → zh_i h' 223 j = zh_i h 223 j) ∧ zh_l h' 226 0 = zh_l h 226 0 ∧ (∀ j, j < 387 → zh_i h' 221 (387 * D + j) = zh_i h 212 j) ∧ Inv (fun j => zh_i h' 221 (387 * D + j)) ∧ (b = false → D < n ∧ zh_i h' 222 D = 0 ∧ ∃ k, 1 ≤ k ∧ k ≤ 7 ∧ zh_i h' 223 D = nI k) := by
  have hz : ¬ (nI D < 0 ∨ 8 ≤ (nI D).toNatClampNeg) := zj_n (by omega) (by decide)
  have hy : True := trivial
  have r22 : zh_r h 211 22 = .ref 222 := by rw [S.r, rx_211_22]
  have r23 : zh_r h 211 23 = .ref 223 := by rw [S.r, rx_211_23]
  rw [b215_0 (by simp +decide only [S.n, S.k, S.r, hp_n_wi, hp_k_wi, hp_r_wi, hp_n_wl, hp_k_wl, hp_r_wl, zq_rf, kx_211, kx_212, kx_221, kx_222, kx_223, kx_224, kx_225, kx_226, kx_227, kx_228, kx_229, rx_211_0, rx_211_21, rx_211_22, rx_211_23, rx_211_24, rx_211_25, rx_211_26, rx_211_32, rx_211_33, rx_211_34, hz, hy]) (by simp +decide only [S.n, S.k, S.r, hp_n_wi, hp_k_wi, hp_r_wi, hp_n_wl, hp_k_wl, hp_r_wl, zq_rf, kx_211, kx_212, kx_221, kx_222, kx_223, kx_224, kx_225, kx_226, kx_227, kx_228, kx_229, rx_211_0, rx_211_21, rx_211_22, rx_211_23, rx_211_24, rx_211_25, rx_211_26, rx_211_32, rx_211_33, rx_211_34, hz, hy]), c_saves S (d := D) (by omega)]
  simp only [Option.bind_some, Option.toList_some, Option.toList_none, List.cons_append, List.nil_append]
  obtain ⟨h1, eh1⟩ : ∃ h1, h1 = zh_ci h 212 0 221 (387 * D) 387 := ⟨_, rfl⟩
  have S1 : Sh h1 := by rw [eh1]; exact S.ci _ _ _ _ _
  have J1 : Inv (zh_i h1 212) := by
    rw [eh1]
    exact J
  have m1 : ∃ v k, k ≤ 7 ∧ v = nI k ∧ (¬ v = 0 → D < n) ∧ zv 6 215 5 [.ref 211, .int (nI D), .int (nI n)] [] h1 = zv 6 215 23 [.ref 211, .int (nI D), .int (nI n)] [.int v, .int (nI D), .ref 223] h1 := by
    have r23' : zh_r h1 211 23 = .ref 223 := by rw [S1.r, rx_211_23]
    rw [b215_5 (S_g0 S1) (S_g1 S1) (by rw [r23', zq_rf]), r23', zq_rf]
    by_cases e : nI D = nI n
    · rw [if_pos e, b215_15]; exact ⟨0, 0, by decide, rfl, fun w => absurd rfl w, rfl⟩
    · have hlt : D < n := by
        refine Nat.lt_of_le_of_ne hD (fun w => e (by rw [w]))
      obtain ⟨N, R, M, B, L, m, H, r, K, C, f, I⟩ := id J1
      have p := q_wh (q := (zh_i h1 215, zh_i h1 216, zh_i h1 211 5, zh_b h1 217)) S1 I (u1 := .double 0) (u2 := .double 0)
      rw [zQ_id] at p
      obtain ⟨k, hk, ek⟩ := wh_7 (zh_i h1 212)
      rw [if_neg e, b215_19 (S_g0 S1) (S_g1 S1), p]
      simp only [Option.bind_some, Option.toList_some, Option.toList_none, List.cons_append, List.nil_append]
      exact ⟨_, k, hk, ek, fun _ => hlt, rfl⟩
  obtain ⟨v, k, hk, ek, hv, ev⟩ := m1
  rw [← eh1, ev]
  have eS : zv 6 215 23 [.ref 211, .int (nI D), .int (nI n)] [.int v, .int (nI D), .ref 223] h1 = zv 6 215 36 [.ref 211, .int (nI D), .int (nI n)] [.int (nI D), .ref 223] (zh_wi (zh_wi h1 223 D v) 222 D 0) := by
    have S := S1
    have r22 : zh_r h1 211 22 = .ref 222 := by rw [S.r, rx_211_22]
    have r23 : zh_r h1 211 23 = .ref 223 := by rw [S.r, rx_211_23]
    rw [b215_23 (by simp +decide only [S.n, S.k, S.r, hp_n_wi, hp_k_wi, hp_r_wi, hp_n_wl, hp_k_wl, hp_r_wl, zq_rf, kx_211, kx_212, kx_221, kx_222, kx_223, kx_224, kx_225, kx_226, kx_227, kx_228, kx_229, rx_211_0, rx_211_21, rx_211_22, rx_211_23, rx_211_24, rx_211_25, rx_211_26, rx_211_32, rx_211_33, rx_211_34, hz, hy]) (by simp +decide only [S.n, S.k, S.r, hp_n_wi, hp_k_wi, hp_r_wi, hp_n_wl, hp_k_wl, hp_r_wl, zq_rf, kx_211, kx_212, kx_221, kx_222, kx_223, kx_224, kx_225, kx_226, kx_227, kx_228, kx_229, rx_211_0, rx_211_21, rx_211_22, rx_211_23, rx_211_24, rx_211_25, rx_211_26, rx_211_32, rx_211_33, rx_211_34, hz, hy]) (by simp +decide only [S.n, S.k, S.r, hp_n_wi, hp_k_wi, hp_r_wi, hp_n_wl, hp_k_wl, hp_r_wl, zq_rf, kx_211, kx_212, kx_221, kx_222, kx_223, kx_224, kx_225, kx_226, kx_227, kx_228, kx_229, rx_211_0, rx_211_21, rx_211_22, rx_211_23, rx_211_24, rx_211_25, rx_211_26, rx_211_32, rx_211_33, rx_211_34, hz, hy]) (by simp +decide only [S.n, S.k, S.r, hp_n_wi, hp_k_wi, hp_r_wi, hp_n_wl, hp_k_wl, hp_r_wl, zq_rf, kx_211, kx_212, kx_221, kx_222, kx_223, kx_224, kx_225, kx_226, kx_227, kx_228, kx_229, rx_211_0, rx_211_21, rx_211_22, rx_211_23, rx_211_24, rx_211_25, rx_211_26, rx_211_32, rx_211_33, rx_211_34, hz, hy]) (by simp +decide only [S.n, S.k, S.r, hp_n_wi, hp_k_wi, hp_r_wi, hp_n_wl, hp_k_wl, hp_r_wl, zq_rf, kx_211, kx_212, kx_221, kx_222, kx_223, kx_224, kx_225, kx_226, kx_227, kx_228, kx_229, rx_211_0, rx_211_21, rx_211_22, rx_211_23, rx_211_24, rx_211_25, rx_211_26, rx_211_32, rx_211_33, rx_211_34, hz, hy]) (by simp +decide only [S.n, S.k, S.r, hp_n_wi, hp_k_wi, hp_r_wi, hp_n_wl, hp_k_wl, hp_r_wl, zq_rf, kx_211, kx_212, kx_221, kx_222, kx_223, kx_224, kx_225, kx_226, kx_227, kx_228, kx_229, rx_211_0, rx_211_21, rx_211_22, rx_211_23, rx_211_24, rx_211_25, rx_211_26, rx_211_32, rx_211_33, rx_211_34, hz, hy]) (by simp +decide only [S.n, S.k, S.r, hp_n_wi, hp_k_wi, hp_r_wi, hp_n_wl, hp_k_wl, hp_r_wl, zq_rf, kx_211, kx_212, kx_221, kx_222, kx_223, kx_224, kx_225, kx_226, kx_227, kx_228, kx_229, rx_211_0, rx_211_21, rx_211_22, rx_211_23, rx_211_24, rx_211_25, rx_211_26, rx_211_32, rx_211_33, rx_211_34, hz, hy]) (by simp +decide only [S.n, S.k, S.r, hp_n_wi, hp_k_wi, hp_r_wi, hp_n_wl, hp_k_wl, hp_r_wl, zq_rf, kx_211, kx_212, kx_221, kx_222, kx_223, kx_224, kx_225, kx_226, kx_227, kx_228, kx_229, rx_211_0, rx_211_21, rx_211_22, rx_211_23, rx_211_24, rx_211_25, rx_211_26, rx_211_32, rx_211_33, rx_211_34, hz, hy]) (by simp +decide only [S.n, S.k, S.r, hp_n_wi, hp_k_wi, hp_r_wi, hp_n_wl, hp_k_wl, hp_r_wl, zq_rf, kx_211, kx_212, kx_221, kx_222, kx_223, kx_224, kx_225, kx_226, kx_227, kx_228, kx_229, rx_211_0, rx_211_21, rx_211_22, rx_211_23, rx_211_24, rx_211_25, rx_211_26, rx_211_32, rx_211_33, rx_211_34, hz, hy]) (by simp +decide only [S.n, S.k, S.r, hp_n_wi, hp_k_wi, hp_r_wi, hp_n_wl, hp_k_wl, hp_r_wl, zq_rf, kx_211, kx_212, kx_221, kx_222, kx_223, kx_224, kx_225, kx_226, kx_227, kx_228, kx_229, rx_211_0, rx_211_21, rx_211_22, rx_211_23, rx_211_24, rx_211_25, rx_211_26, rx_211_32, rx_211_33, rx_211_34, hz, hy]), r22, r23, zq_rf, zq_rf, nI_clamp (by omega)]
  rw [eS]
  obtain ⟨h2, eh2⟩ : ∃ h2, h2 = zh_wi (zh_wi h1 223 D v) 222 D 0 := ⟨_, rfl⟩
  have S2 : Sh h2 := by rw [eh2]; exact (S1.wi _ _ _).wi _ _ _
  have i2 : ∀ a j, a ≠ 221 → a ≠ 222 → a ≠ 223 → zh_i h2 a j = zh_i h a j := fun a j h1' h2' h3' => by
    rw [eh2, hp_i_wi, if_neg (by omega), hp_i_wi, if_neg (by omega), eh1, hp_i_ci, if_neg (by omega)]
  have i221 : ∀ j, zh_i h2 221 j = if 387 * D ≤ j ∧ j < 387 * D + 387 then zh_i h 212 (0 + (j - 387 * D)) else zh_i h 221 j := fun j => by
    rw [eh2, hp_i_wi, if_neg (by omega), hp_i_wi, if_neg (by omega), eh1, hp_i_ci]
    by_cases w : 387 * D ≤ j ∧ j < 387 * D + 387
    · rw [if_pos ⟨rfl, w⟩, if_pos w]
    · rw [if_neg (fun x => w x.2), if_neg w]
  have i222 : ∀ j, zh_i h2 222 j = if j = D then 0 else zh_i h 222 j := fun j => by
    rw [eh2, hp_i_wi]
    by_cases w : j = D
    · rw [if_pos ⟨rfl, w⟩, if_pos w]
    · rw [if_neg (fun x => w x.2), if_neg w, hp_i_wi, if_neg (by omega), eh1, hp_i_ci, if_neg (by omega)]
  have i223 : ∀ j, zh_i h2 223 j = if j = D then v else zh_i h 223 j := fun j => by
    rw [eh2, hp_i_wi, if_neg (by omega), hp_i_wi]
    by_cases w : j = D
    · rw [if_pos ⟨rfl, w⟩, if_pos w]
    · rw [if_neg (fun x => w x.2), if_neg w, eh1, hp_i_ci, if_neg (by omega)]
  have F2 : Fq h h2 := by rw [eh2, eh1]; exact ((Fq.ci (by decide)).trans (Fq.wi (by decide))).trans (Fq.wi (by decide))
  have b2 : ∀ j, zh_b h2 214 j = zh_b h 214 j := fun j => by rw [eh2, eh1]; rfl
  have l2 : zh_l h2 226 0 = zh_l h 226 0 := by rw [eh2, eh1]; rfl
  have iq : ∀ j, j < 387 → zh_i h2 221 (387 * D + j) = zh_i h 212 j := fun j hj => by rw [i221, if_pos ⟨by omega, by omega⟩, Nat.zero_add, show 387 * D + j - 387 * D = j by omega]
  have im : Inv (fun j => zh_i h2 221 (387 * D + j)) := J.congr iq
  rw [← eh2]
  have e36 : zv 6 215 36 [.ref 211, .int (nI D), .int (nI n)] [.int (nI D), .ref 223] h2 = if v = 0 then zv 6 215 40 [.ref 211, .int (nI D), .int (nI n)] [] h2 else zv 6 215 47 [.ref 211, .int (nI D), .int (nI n)] [] h2 := by
    have S := S2
    rw [b215_36 (by simp +decide only [S.n, S.k, S.r, hp_n_wi, hp_k_wi, hp_r_wi, hp_n_wl, hp_k_wl, hp_r_wl, zq_rf, kx_211, kx_212, kx_221, kx_222, kx_223, kx_224, kx_225, kx_226, kx_227, kx_228, kx_229, rx_211_0, rx_211_21, rx_211_22, rx_211_23, rx_211_24, rx_211_25, rx_211_26, rx_211_32, rx_211_33, rx_211_34, hz, hy]) (by simp +decide only [S.n, S.k, S.r, hp_n_wi, hp_k_wi, hp_r_wi, hp_n_wl, hp_k_wl, hp_r_wl, zq_rf, kx_211, kx_212, kx_221, kx_222, kx_223, kx_224, kx_225, kx_226, kx_227, kx_228, kx_229, rx_211_0, rx_211_21, rx_211_22, rx_211_23, rx_211_24, rx_211_25, rx_211_26, rx_211_32, rx_211_33, rx_211_34, hz, hy]) (by simp +decide only [S.n, S.k, S.r, hp_n_wi, hp_k_wi, hp_r_wi, hp_n_wl, hp_k_wl, hp_r_wl, zq_rf, kx_211, kx_212, kx_221, kx_222, kx_223, kx_224, kx_225, kx_226, kx_227, kx_228, kx_229, rx_211_0, rx_211_21, rx_211_22, rx_211_23, rx_211_24, rx_211_25, rx_211_26, rx_211_32, rx_211_33, rx_211_34, hz, hy]), nI_clamp (by omega), i223, if_pos rfl]
  rw [e36]
  by_cases h0 : v = 0
  · obtain ⟨h3, e3, T3⟩ := u_rq S2 (d := D) (by omega) (u2 := .double 0) (u3 := .double 0) (u4 := .double 0) (u5 := .double 0) (u6 := .double 0) (u7 := .double 0)
    obtain ⟨t1, t2, t3, t4, t5⟩ := T3
    rw [if_pos h0, b215_40 (S_g0 S2) (S_g1 S2), e3]
    simp only [Option.bind_some, Option.toList_some, Option.toList_none, List.cons_append, List.nil_append]
    rw [b215_45]
    refine ⟨true, h3, rfl, t1, F2.trans t2, ⟨?_, fun j => ?_, fun j => ?_, fun j => ?_⟩, fun j hj => ?_, fun j hj => ?_, fun j hj => ?_, ?_, fun j hj => ?_, ?_, fun w => absurd w (by decide)⟩
    · rw [t3 _ _ (by decide) (by decide) (by decide), i2 _ _ (by decide) (by decide) (by decide)]
    · rw [t3 _ _ (by decide) (by decide) (by omega), i2 _ _ (by decide) (by decide) (by decide)]
    · rw [t4, b2]
    · rw [t3 _ _ (by decide) (by decide) (by omega), i2 _ _ (by decide) (by decide) (by decide)]
    · rw [t3 _ _ (by decide) (by decide) (by omega), i221, if_neg (by omega)]
    · rw [t3 _ _ (by decide) (by decide) (by omega), i222, if_neg (by omega)]
    · rw [t3 _ _ (by decide) (by decide) (by omega), i223, if_neg (by omega)]
    · rw [t5 _ _ (by decide), l2]
    · rw [t3 _ _ (by decide) (by decide) (by omega), iq j hj]
    · exact im.congr (fun j hj => t3 _ _ (by decide) (by decide) (by omega))
  · rw [if_neg h0, b215_47]
    refine ⟨false, h2, rfl, S2, F2, ⟨i2 _ _ (by decide) (by decide) (by decide), fun j => i2 _ _ (by decide) (by decide) (by decide), b2, fun j => i2 _ _ (by decide) (by decide) (by decide)⟩, fun j hj => by rw [i221, if_neg (by omega)], fun j hj => by rw [i222, if_neg (by omega)], fun j hj => by rw [i223, if_neg (by omega)], l2, iq, im, fun _ => ⟨hv h0, by rw [i222, if_pos rfl], k, ?_, hk, by rw [i223, if_pos rfl, ek]⟩⟩
    refine Nat.pos_of_ne_zero (fun w => h0 ?_)
    rw [ek, w]; rfl
/-- all rows of a state that stands at a depth -/
theorem fr_dq {n : Nat} (hn : n ≤ 7) : ∀ t d, d + t = n → 0 < t → ∀ {h : zi_Hp} {k : Nat} {u3 u4 : Value}, Sh h → Inv (fun j => zh_i h 221 (387 * d + j)) → 1 ≤ k → k ≤ 7 → zh_i h 223 d = nI k → ∀ e c, c + e = 3 → zh_i h 222 d = nI c → ∃ h' v3 v4, zv 7 217 20 [.ref 211, .int (nI n), .int (nI d), u3, u4] [] h = zv 7 217 20 [.ref 211, .int (nI n), .int (nI d + (-1)), v3, v4] [] h' ∧ Wq d h h' := by
  intro t
  induction t with
  | zero => intro d _ h0; omega
  | succ t iht =>
    intro d hdt _ h k u3 u4 S W h1 h7 ek e
    have hd : d < 8 := by omega
    have hz : ¬ (nI d < 0 ∨ 8 ≤ (nI d).toNatClampNeg) := zj_n (by omega) (by decide)
    induction e using Nat.strongRecOn generalizing h u3 u4 with
    | ind e ihe =>
      intro c hc ec
      have hy : True := trivial
      have r22 : zh_r h 211 22 = .ref 222 := by rw [S.r, rx_211_22]
      rw [b217_20, if_neg (nI_pos (by omega)), b217_24 (by simp +decide only [S.n, S.k, S.r, hp_n_wi, hp_k_wi, hp_r_wi, hp_n_wl, hp_k_wl, hp_r_wl, zq_rf, kx_211, kx_212, kx_221, kx_222, kx_223, kx_224, kx_225, kx_226, kx_227, kx_228, kx_229, rx_211_0, rx_211_21, rx_211_22, rx_211_23, rx_211_24, rx_211_25, rx_211_26, rx_211_32, rx_211_33, rx_211_34, hz, hy]) (by simp +decide only [S.n, S.k, S.r, hp_n_wi, hp_k_wi, hp_r_wi, hp_n_wl, hp_k_wl, hp_r_wl, zq_rf, kx_211, kx_212, kx_221, kx_222, kx_223, kx_224, kx_225, kx_226, kx_227, kx_228, kx_229, rx_211_0, rx_211_21, rx_211_22, rx_211_23, rx_211_24, rx_211_25, rx_211_26, rx_211_32, rx_211_33, rx_211_34, hz, hy]) (by simp +decide only [S.n, S.k, S.r, hp_n_wi, hp_k_wi, hp_r_wi, hp_n_wl, hp_k_wl, hp_r_wl, zq_rf, kx_211, kx_212, kx_221, kx_222, kx_223, kx_224, kx_225, kx_226, kx_227, kx_228, kx_229, rx_211_0, rx_211_21, rx_211_22, rx_211_23, rx_211_24, rx_211_25, rx_211_26, rx_211_32, rx_211_33, rx_211_34, hz, hy]) (by simp +decide only [S.n, S.k, S.r, hp_n_wi, hp_k_wi, hp_r_wi, hp_n_wl, hp_k_wl, hp_r_wl, zq_rf, kx_211, kx_212, kx_221, kx_222, kx_223, kx_224, kx_225, kx_226, kx_227, kx_228, kx_229, rx_211_0, rx_211_21, rx_211_22, rx_211_23, rx_211_24, rx_211_25, rx_211_26, rx_211_32, rx_211_33, rx_211_34, hz, hy]) (by simp +decide only [S.n, S.k, S.r, hp_n_wi, hp_k_wi, hp_r_wi, hp_n_wl, hp_k_wl, hp_r_wl, zq_rf, kx_211, kx_212, kx_221, kx_222, kx_223, kx_224, kx_225, kx_226, kx_227, kx_228, kx_229, rx_211_0, rx_211_21, rx_211_22, rx_211_23, rx_211_24, rx_211_25, rx_211_26, rx_211_32, rx_211_33, rx_211_34, hz, hy]) (by simp +decide only [S.n, S.k, S.r, hp_n_wi, hp_k_wi, hp_r_wi, hp_n_wl, hp_k_wl, hp_r_wl, zq_rf, kx_211, kx_212, kx_221, kx_222, kx_223, kx_224, kx_225, kx_226, kx_227, kx_228, kx_229, rx_211_0, rx_211_21, rx_211_22, rx_211_23, rx_211_24, rx_211_25, rx_211_26, rx_211_32, rx_211_33, rx_211_34, hz, hy]), r22, zq_rf, nI_clamp (by omega), ec]
      obtain ⟨c', hc1, hc2, e55⟩ := fr_next S (n := n) hd ek (u4 := u4) e c hc
      rw [e55, b217_55 (by simp +decide only [S.n, S.k, S.r, hp_n_wi, hp_k_wi, hp_r_wi, hp_n_wl, hp_k_wl, hp_r_wl, zq_rf, kx_211, kx_212, kx_221, kx_222, kx_223, kx_224, kx_225, kx_226, kx_227, kx_228, kx_229, rx_211_0, rx_211_21, rx_211_22, rx_211_23, rx_211_24, rx_211_25, rx_211_26, rx_211_32, rx_211_33, rx_211_34, hz, hy]) (by simp +decide only [S.n, S.k, S.r, hp_n_wi, hp_k_wi, hp_r_wi, hp_n_wl, hp_k_wl, hp_r_wl, zq_rf, kx_211, kx_212, kx_221, kx_222, kx_223, kx_224, kx_225, kx_226, kx_227, kx_228, kx_229, rx_211_0, rx_211_21, rx_211_22, rx_211_23, rx_211_24, rx_211_25, rx_211_26, rx_211_32, rx_211_33, rx_211_34, hz, hy]) (by simp +decide only [S.n, S.k, S.r, hp_n_wi, hp_k_wi, hp_r_wi, hp_n_wl, hp_k_wl, hp_r_wl, zq_rf, kx_211, kx_212, kx_221, kx_222, kx_223, kx_224, kx_225, kx_226, kx_227, kx_228, kx_229, rx_211_0, rx_211_21, rx_211_22, rx_211_23, rx_211_24, rx_211_25, rx_211_26, rx_211_32, rx_211_33, rx_211_34, hz, hy]) (by simp +decide only [S.n, S.k, S.r, hp_n_wi, hp_k_wi, hp_r_wi, hp_n_wl, hp_k_wl, hp_r_wl, zq_rf, kx_211, kx_212, kx_221, kx_222, kx_223, kx_224, kx_225, kx_226, kx_227, kx_228, kx_229, rx_211_0, rx_211_21, rx_211_22, rx_211_23, rx_211_24, rx_211_25, rx_211_26, rx_211_32, rx_211_33, rx_211_34, hz, hy]) (by simp +decide only [S.n, S.k, S.r, hp_n_wi, hp_k_wi, hp_r_wi, hp_n_wl, hp_k_wl, hp_r_wl, zq_rf, kx_211, kx_212, kx_221, kx_222, kx_223, kx_224, kx_225, kx_226, kx_227, kx_228, kx_229, rx_211_0, rx_211_21, rx_211_22, rx_211_23, rx_211_24, rx_211_25, rx_211_26, rx_211_32, rx_211_33, rx_211_34, hz, hy]) (by simp +decide only [S.n, S.k, S.r, hp_n_wi, hp_k_wi, hp_r_wi, hp_n_wl, hp_k_wl, hp_r_wl, zq_rf, kx_211, kx_212, kx_221, kx_222, kx_223, kx_224, kx_225, kx_226, kx_227, kx_228, kx_229, rx_211_0, rx_211_21, rx_211_22, rx_211_23, rx_211_24, rx_211_25, rx_211_26, rx_211_32, rx_211_33, rx_211_34, hz, hy]), r22, zq_rf, nI_clamp (by omega), nI_s]
      have T1 : Wq d h (zh_wi h 222 d (nI (c' + 1))) := Wq.wi S (by omega)
      by_cases h3 : c' = 3
      · subst h3
        rw [if_neg (by decide), b217_69, b217_179]
        exact ⟨_, _, _, rfl, T1⟩
      · have e3 : nI c' < 3 := nI_lt (b := 3) (by omega) (by decide)
        rw [if_pos e3]
        obtain ⟨h1', eh1⟩ : ∃ h1', h1' = zh_wi h 222 d (nI (c' + 1)) := ⟨_, rfl⟩
        rw [← eh1] at T1 ⊢
        have S1 := T1.1
        have T2 : Wq d h1' (zh_ci h1' 221 (387 * d) 212 0 387) := Wq.re S1
        rw [b217_75 (S_g0 S1) (S_g1 S1), c_restores S1 (by omega)]
        simp only [Option.bind_some, Option.toList_some, Option.toList_none, List.cons_append, List.nil_append]
        have J2 : Inv (zh_i (zh_ci h1' 221 (387 * d) 212 0 387) 212) := W.congr (fun j hj => by
          rw [hp_i_ci, if_pos ⟨rfl, by omega, by omega⟩, Nat.sub_zero, T1.2.2.2.1 _ (by omega)])
        obtain ⟨h2', eh2⟩ : ∃ h2', h2' = zh_ci h1' 221 (387 * d) 212 0 387 := ⟨_, rfl⟩
        rw [← eh2] at T2 J2 ⊢
        have S2 := T2.1
        obtain ⟨N, R, M, B, L, m, H, r, K, C, f, I⟩ := id J2
        obtain ⟨x, q', s1, s', N', R', M', B', L', m', H', r', K', C', f', -, -, eq, J', -⟩ := q_step S2 (q := (zh_i h2' 215, zh_i h2' 216, zh_i h2' 211 5, zh_b h2' 217)) I (c := c') (by omega) (u2 := .double 0) (u3 := .double 0)
        rw [zQ_id] at eq
        rw [b217_80 (S_g0 S2) (S_g1 S2), eq]
        simp only [Option.bind_some, Option.toList_some, Option.toList_none, List.cons_append, List.nil_append]
        have T3 : Wq d h2' (zQ h2' q' s') := Wq.zQ S2
        have J3 : Inv (zh_i (zQ h2' q' s') 212) := J'.inv
        obtain ⟨h3', eh3⟩ : ∃ h3', h3' = zQ h2' q' s' := ⟨_, rfl⟩
        rw [← eh3] at T3 J3 ⊢
        have S3 := T3.1
        -- figures, rights, ways of the next depth
        have hz' : ¬ (nI (d + 1) < 0 ∨ 8 ≤ (nI (d + 1)).toNatClampNeg) := zj_n (by omega) (by decide)
        have k3 : zh_i h3' 223 d = nI k := by rw [T3.2.2.2.2.2.1 d (Nat.le_refl _), T2.2.2.2.2.2.1 d (Nat.le_refl _), T1.2.2.2.2.2.1 d (Nat.le_refl _)]; exact ek
        have w85 : ∃ h4', zv 7 217 85 [.ref 211, .int (nI n), .int (nI d), .int (nI c'), u4] [.int x] h3' = (zv 6 215 0 [.ref 211, .int (nI (d + 1)), .int (nI n)] [] h4').bind (fun r => zv 7 217 169 [.ref 211, .int (nI n), .int (nI d), .int (nI c'), .int x] (r.1.toList ++ [.int (nI d)]) r.2) ∧ Wq d h3' h4' ∧ ∀ j, zh_i h4' 212 j = zh_i h3' 212 j ∧ zh_i h4' 222 j = zh_i h3' 222 j := by
          have S := S3
          have hy := hz'
          have r24 : zh_r h3' 211 24 = .ref 224 := by rw [S.r, rx_211_24]
          have r25 : zh_r h3' 211 25 = .ref 225 := by rw [S.r, rx_211_25]
          rw [b217_85 (by simp +decide only [S.n, S.k, S.r, hp_n_wi, hp_k_wi, hp_r_wi, hp_n_wl, hp_k_wl, hp_r_wl, zq_rf, kx_211, kx_212, kx_221, kx_222, kx_223, kx_224, kx_225, kx_226, kx_227, kx_228, kx_229, rx_211_0, rx_211_21, rx_211_22, rx_211_23, rx_211_24, rx_211_25, rx_211_26, rx_211_32, rx_211_33, rx_211_34, hz, hy]) (by simp +decide only [S.n, S.k, S.r, hp_n_wi, hp_k_wi, hp_r_wi, hp_n_wl, hp_k_wl, hp_r_wl, zq_rf, kx_211, kx_212, kx_221, kx_222, kx_223, kx_224, kx_225, kx_226, kx_227, kx_228, kx_229, rx_211_0, rx_211_21, rx_211_22, rx_211_23, rx_211_24, rx_211_25, rx_211_26, rx_211_32, rx_211_33, rx_211_34, hz, hy]) (by simp +decide only [S.n, S.k, S.r, hp_n_wi, hp_k_wi, hp_r_wi, hp_n_wl, hp_k_wl, hp_r_wl, zq_rf, kx_211, kx_212, kx_221, kx_222, kx_223, kx_224, kx_225, kx_226, kx_227, kx_228, kx_229, rx_211_0, rx_211_21, rx_211_22, rx_211_23, rx_211_24, rx_211_25, rx_211_26, rx_211_32, rx_211_33, rx_211_34, hz, hy]) (by simp +decide only [S.n, S.k, S.r, hp_n_wi, hp_k_wi, hp_r_wi, hp_n_wl, hp_k_wl, hp_r_wl, zq_rf, kx_211, kx_212, kx_221, kx_222, kx_223, kx_224, kx_225, kx_226, kx_227, kx_228, kx_229, rx_211_0, rx_211_21, rx_211_22, rx_211_23, rx_211_24, rx_211_25, rx_211_26, rx_211_32, rx_211_33, rx_211_34, hz, hy]) (by simp +decide only [S.n, S.k, S.r, hp_n_wi, hp_k_wi, hp_r_wi, hp_n_wl, hp_k_wl, hp_r_wl, zq_rf, kx_211, kx_212, kx_221, kx_222, kx_223, kx_224, kx_225, kx_226, kx_227, kx_228, kx_229, rx_211_0, rx_211_21, rx_211_22, rx_211_23, rx_211_24, rx_211_25, rx_211_26, rx_211_32, rx_211_33, rx_211_34, hz, hy]) (by simp +decide only [S.n, S.k, S.r, hp_n_wi, hp_k_wi, hp_r_wi, hp_n_wl, hp_k_wl, hp_r_wl, zq_rf, kx_211, kx_212, kx_221, kx_222, kx_223, kx_224, kx_225, kx_226, kx_227, kx_228, kx_229, rx_211_0, rx_211_21, rx_211_22, rx_211_23, rx_211_24, rx_211_25, rx_211_26, rx_211_32, rx_211_33, rx_211_34, hz, hy]) (by rw [nI_s]; exact (by simp +decide only [S.n, S.k, S.r, hp_n_wi, hp_k_wi, hp_r_wi, hp_n_wl, hp_k_wl, hp_r_wl, zq_rf, kx_211, kx_212, kx_221, kx_222, kx_223, kx_224, kx_225, kx_226, kx_227, kx_228, kx_229, rx_211_0, rx_211_21, rx_211_22, rx_211_23, rx_211_24, rx_211_25, rx_211_26, rx_211_32, rx_211_33, rx_211_34, hz, hy])) (by simp +decide only [S.n, S.k, S.r, hp_n_wi, hp_k_wi, hp_r_wi, hp_n_wl, hp_k_wl, hp_r_wl, zq_rf, kx_211, kx_212, kx_221, kx_222, kx_223, kx_224, kx_225, kx_226, kx_227, kx_228, kx_229, rx_211_0, rx_211_21, rx_211_22, rx_211_23, rx_211_24, rx_211_25, rx_211_26, rx_211_32, rx_211_33, rx_211_34, hz, hy]), r24, r25, zq_rf, zq_rf, nI_s, nI_clamp (by omega), nI_clamp (by omega)]
          have A1 : ∀ v, Wq d h3' (zh_wi h3' 224 (d + 1) v) := fun v => Wq.wi S3 (by omega)
          have m1 : ∀ h4, Sh h4 → ∃ v, zv 7 217 118 [.ref 211, .int (nI n), .int (nI d), .int (nI c'), .int x] [.int (nI d), .ref 225, .int (nI (d + 1)), .ref 225] h4 = zv 7 217 133 [.ref 211, .int (nI n), .int (nI d), .int (nI c'), .int x] [.int v, .int (zh_i h4 225 d), .int (nI (d + 1)), .ref 225] h4 := fun h4 S => by
            rw [b217_118 (by simp +decide only [S.n, S.k, S.r, hp_n_wi, hp_k_wi, hp_r_wi, hp_n_wl, hp_k_wl, hp_r_wl, zq_rf, kx_211, kx_212, kx_221, kx_222, kx_223, kx_224, kx_225, kx_226, kx_227, kx_228, kx_229, rx_211_0, rx_211_21, rx_211_22, rx_211_23, rx_211_24, rx_211_25, rx_211_26, rx_211_32, rx_211_33, rx_211_34, hz, hy]) (by simp +decide only [S.n, S.k, S.r, hp_n_wi, hp_k_wi, hp_r_wi, hp_n_wl, hp_k_wl, hp_r_wl, zq_rf, kx_211, kx_212, kx_221, kx_222, kx_223, kx_224, kx_225, kx_226, kx_227, kx_228, kx_229, rx_211_0, rx_211_21, rx_211_22, rx_211_23, rx_211_24, rx_211_25, rx_211_26, rx_211_32, rx_211_33, rx_211_34, hz, hy]) (by simp +decide only [S.n, S.k, S.r, hp_n_wi, hp_k_wi, hp_r_wi, hp_n_wl, hp_k_wl, hp_r_wl, zq_rf, kx_211, kx_212, kx_221, kx_222, kx_223, kx_224, kx_225, kx_226, kx_227, kx_228, kx_229, rx_211_0, rx_211_21, rx_211_22, rx_211_23, rx_211_24, rx_211_25, rx_211_26, rx_211_32, rx_211_33, rx_211_34, hz, hy]), nI_clamp (by omega)]
            split
            · rw [b217_125, b217_130, r_flag]
              simp only [Option.bind_some, Option.toList_some, Option.toList_none, List.cons_append, List.nil_append]
              exact ⟨_, rfl⟩
            · rw [b217_129, b217_130, r_flag]
              simp only [Option.bind_some, Option.toList_some, Option.toList_none, List.cons_append, List.nil_append]
              exact ⟨_, rfl⟩
          have m2 : ∀ h4, Wq d h3' h4 → (∀ j, zh_i h4 212 j = zh_i h3' 212 j ∧ zh_i h4 222 j = zh_i h3' 222 j) → ∃ h4', zv 7 217 118 [.ref 211, .int (nI n), .int (nI d), .int (nI c'), .int x] [.int (nI d), .ref 225, .int (nI (d + 1)), .ref 225] h4 = (zv 6 215 0 [.ref 211, .int (nI (d + 1)), .int (nI n)] [] h4').bind (fun r => zv 7 217 169 [.ref 211, .int (nI n), .int (nI d), .int (nI c'), .int x] (r.1.toList ++ [.int (nI d)]) r.2) ∧ Wq d h3' h4' ∧ ∀ j, zh_i h4' 212 j = zh_i h3' 212 j ∧ zh_i h4' 222 j = zh_i h3' 222 j := fun h4 A4 E4 => by
            have S := A4.1
            obtain ⟨v, ev⟩ := m1 h4 S
            have r26 : zh_r h4 211 26 = .ref 226 := by rw [S.r, rx_211_26]
            have r23 : zh_r h4 211 23 = .ref 223 := by rw [S.r, rx_211_23]
            have k4 : zh_i h4 223 d = nI k := by rw [A4.2.2.2.2.2.1 d (Nat.le_refl _)]; exact k3
            obtain ⟨y, ey, nz⟩ := hm_nz (h := zh_wi h4 225 (d + 1) (zh_i h4 225 d + v)) h1 h7
            rw [ev, b217_133 (by simp +decide only [S.n, S.k, S.r, hp_n_wi, hp_k_wi, hp_r_wi, hp_n_wl, hp_k_wl, hp_r_wl, zq_rf, kx_211, kx_212, kx_221, kx_222, kx_223, kx_224, kx_225, kx_226, kx_227, kx_228, kx_229, rx_211_0, rx_211_21, rx_211_22, rx_211_23, rx_211_24, rx_211_25, rx_211_26, rx_211_32, rx_211_33, rx_211_34, hz, hy]) (by simp +decide only [S.n, S.k, S.r, hp_n_wi, hp_k_wi, hp_r_wi, hp_n_wl, hp_k_wl, hp_r_wl, zq_rf, kx_211, kx_212, kx_221, kx_222, kx_223, kx_224, kx_225, kx_226, kx_227, kx_228, kx_229, rx_211_0, rx_211_21, rx_211_22, rx_211_23, rx_211_24, rx_211_25, rx_211_26, rx_211_32, rx_211_33, rx_211_34, hz, hy]) (by simp +decide only [S.n, S.k, S.r, hp_n_wi, hp_k_wi, hp_r_wi, hp_n_wl, hp_k_wl, hp_r_wl, zq_rf, kx_211, kx_212, kx_221, kx_222, kx_223, kx_224, kx_225, kx_226, kx_227, kx_228, kx_229, rx_211_0, rx_211_21, rx_211_22, rx_211_23, rx_211_24, rx_211_25, rx_211_26, rx_211_32, rx_211_33, rx_211_34, hz, hy]) (by simp +decide only [S.n, S.k, S.r, hp_n_wi, hp_k_wi, hp_r_wi, hp_n_wl, hp_k_wl, hp_r_wl, zq_rf, kx_211, kx_212, kx_221, kx_222, kx_223, kx_224, kx_225, kx_226, kx_227, kx_228, kx_229, rx_211_0, rx_211_21, rx_211_22, rx_211_23, rx_211_24, rx_211_25, rx_211_26, rx_211_32, rx_211_33, rx_211_34, hz, hy]) (by simp +decide only [S.n, S.k, S.r, hp_n_wi, hp_k_wi, hp_r_wi, hp_n_wl, hp_k_wl, hp_r_wl, zq_rf, kx_211, kx_212, kx_221, kx_222, kx_223, kx_224, kx_225, kx_226, kx_227, kx_228, kx_229, rx_211_0, rx_211_21, rx_211_22, rx_211_23, rx_211_24, rx_211_25, rx_211_26, rx_211_32, rx_211_33, rx_211_34, hz, hy]) (by simp +decide only [S.n, S.k, S.r, hp_n_wi, hp_k_wi, hp_r_wi, hp_n_wl, hp_k_wl, hp_r_wl, zq_rf, kx_211, kx_212, kx_221, kx_222, kx_223, kx_224, kx_225, kx_226, kx_227, kx_228, kx_229, rx_211_0, rx_211_21, rx_211_22, rx_211_23, rx_211_24, rx_211_25, rx_211_26, rx_211_32, rx_211_33, rx_211_34, hz, hy]), r26, zq_rf, nI_s, nI_clamp (by omega), b217_147 (by simp +decide only [S.n, S.k, S.r, hp_n_wi, hp_k_wi, hp_r_wi, hp_n_wl, hp_k_wl, hp_r_wl, zq_rf, kx_211, kx_212, kx_221, kx_222, kx_223, kx_224, kx_225, kx_226, kx_227, kx_228, kx_229, rx_211_0, rx_211_21, rx_211_22, rx_211_23, rx_211_24, rx_211_25, rx_211_26, rx_211_32, rx_211_33, rx_211_34, hz, hy]) (by simp +decide only [S.n, S.k, S.r, hp_n_wi, hp_k_wi, hp_r_wi, hp_n_wl, hp_k_wl, hp_r_wl, zq_rf, kx_211, kx_212, kx_221, kx_222, kx_223, kx_224, kx_225, kx_226, kx_227, kx_228, kx_229, rx_211_0, rx_211_21, rx_211_22, rx_211_23, rx_211_24, rx_211_25, rx_211_26, rx_211_32, rx_211_33, rx_211_34, hz, hy]) (by simp +decide only [S.n, S.k, S.r, hp_n_wi, hp_k_wi, hp_r_wi, hp_n_wl, hp_k_wl, hp_r_wl, zq_rf, kx_211, kx_212, kx_221, kx_222, kx_223, kx_224, kx_225, kx_226, kx_227, kx_228, kx_229, rx_211_0, rx_211_21, rx_211_22, rx_211_23, rx_211_24, rx_211_25, rx_211_26, rx_211_32, rx_211_33, rx_211_34, hz, hy]) (by simp +decide only [S.n, S.k, S.r, hp_n_wi, hp_k_wi, hp_r_wi, hp_n_wl, hp_k_wl, hp_r_wl, zq_rf, kx_211, kx_212, kx_221, kx_222, kx_223, kx_224, kx_225, kx_226, kx_227, kx_228, kx_229, rx_211_0, rx_211_21, rx_211_22, rx_211_23, rx_211_24, rx_211_25, rx_211_26, rx_211_32, rx_211_33, rx_211_34, hz, hy]) (by simp +decide only [S.n, S.k, S.r, hp_n_wi, hp_k_wi, hp_r_wi, hp_n_wl, hp_k_wl, hp_r_wl, zq_rf, kx_211, kx_212, kx_221, kx_222, kx_223, kx_224, kx_225, kx_226, kx_227, kx_228, kx_229, rx_211_0, rx_211_21, rx_211_22, rx_211_23, rx_211_24, rx_211_25, rx_211_26, rx_211_32, rx_211_33, rx_211_34, hz, hy]) (by simp +decide only [S.n, S.k, S.r, hp_n_wi, hp_k_wi, hp_r_wi, hp_n_wl, hp_k_wl, hp_r_wl, zq_rf, kx_211, kx_212, kx_221, kx_222, kx_223, kx_224, kx_225, kx_226, kx_227, kx_228, kx_229, rx_211_0, rx_211_21, rx_211_22, rx_211_23, rx_211_24, rx_211_25, rx_211_26, rx_211_32, rx_211_33, rx_211_34, hz, hy]) (by simp +decide only [S.n, S.k, S.r, hp_n_wi, hp_k_wi, hp_r_wi, hp_n_wl, hp_k_wl, hp_r_wl, zq_rf, kx_211, kx_212, kx_221, kx_222, kx_223, kx_224, kx_225, kx_226, kx_227, kx_228, kx_229, rx_211_0, rx_211_21, rx_211_22, rx_211_23, rx_211_24, rx_211_25, rx_211_26, rx_211_32, rx_211_33, rx_211_34, hz, hy]) (by simp +decide only [S.n, S.k, S.r, hp_n_wi, hp_k_wi, hp_r_wi, hp_n_wl, hp_k_wl, hp_r_wl, zq_rf, kx_211, kx_212, kx_221, kx_222, kx_223, kx_224, kx_225, kx_226, kx_227, kx_228, kx_229, rx_211_0, rx_211_21, rx_211_22, rx_211_23, rx_211_24, rx_211_25, rx_211_26, rx_211_32, rx_211_33, rx_211_34, hz, hy]) (by simp +decide only [S.n, S.k, S.r, hp_n_wi, hp_k_wi, hp_r_wi, hp_n_wl, hp_k_wl, hp_r_wl, zq_rf, kx_211, kx_212, kx_221, kx_222, kx_223, kx_224, kx_225, kx_226, kx_227, kx_228, kx_229, rx_211_0, rx_211_21, rx_211_22, rx_211_23, rx_211_24, rx_211_25, rx_211_26, rx_211_32, rx_211_33, rx_211_34, hz, hy]), hp_r_wi, r23, zq_rf, nI_clamp (by omega), hp_i_wi, if_neg (by omega), k4, ey]
            simp only [Option.bind_some, Option.toList_some, Option.toList_none, List.cons_append, List.nil_append]
            rw [b217_157 nz (by simp +decide only [S.n, S.k, S.r, hp_n_wi, hp_k_wi, hp_r_wi, hp_n_wl, hp_k_wl, hp_r_wl, zq_rf, kx_211, kx_212, kx_221, kx_222, kx_223, kx_224, kx_225, kx_226, kx_227, kx_228, kx_229, rx_211_0, rx_211_21, rx_211_22, rx_211_23, rx_211_24, rx_211_25, rx_211_26, rx_211_32, rx_211_33, rx_211_34, hz, hy]) (by simp +decide only [S.n, S.k, S.r, hp_n_wi, hp_k_wi, hp_r_wi, hp_n_wl, hp_k_wl, hp_r_wl, zq_rf, kx_211, kx_212, kx_221, kx_222, kx_223, kx_224, kx_225, kx_226, kx_227, kx_228, kx_229, rx_211_0, rx_211_21, rx_211_22, rx_211_23, rx_211_24, rx_211_25, rx_211_26, rx_211_32, rx_211_33, rx_211_34, hz, hy]) (by simp +decide only [S.n, S.k, S.r, hp_n_wi, hp_k_wi, hp_r_wi, hp_n_wl, hp_k_wl, hp_r_wl, zq_rf, kx_211, kx_212, kx_221, kx_222, kx_223, kx_224, kx_225, kx_226, kx_227, kx_228, kx_229, rx_211_0, rx_211_21, rx_211_22, rx_211_23, rx_211_24, rx_211_25, rx_211_26, rx_211_32, rx_211_33, rx_211_34, hz, hy]) (by simp +decide only [S.n, S.k, S.r, hp_n_wi, hp_k_wi, hp_r_wi, hp_n_wl, hp_k_wl, hp_r_wl, zq_rf, kx_211, kx_212, kx_221, kx_222, kx_223, kx_224, kx_225, kx_226, kx_227, kx_228, kx_229, rx_211_0, rx_211_21, rx_211_22, rx_211_23, rx_211_24, rx_211_25, rx_211_26, rx_211_32, rx_211_33, rx_211_34, hz, hy]) (by simp +decide only [S.n, S.k, S.r, hp_n_wi, hp_k_wi, hp_r_wi, hp_n_wl, hp_k_wl, hp_r_wl, zq_rf, kx_211, kx_212, kx_221, kx_222, kx_223, kx_224, kx_225, kx_226, kx_227, kx_228, kx_229, rx_211_0, rx_211_21, rx_211_22, rx_211_23, rx_211_24, rx_211_25, rx_211_26, rx_211_32, rx_211_33, rx_211_34, hz, hy]), nI_s, nI_clamp (by omega)]
            exact ⟨_, rfl, (A4.trans (Wq.wi S (by omega))).trans (Wq.wl (S.wi _ _ _) (by omega)), fun j => by
              show zh_i (zh_wi h4 225 (d + 1) (zh_i h4 225 d + v)) 212 j = _ ∧ zh_i (zh_wi h4 225 (d + 1) (zh_i h4 225 d + v)) 222 j = _
              rw [hp_i_wi, if_neg (by omega), hp_i_wi, if_neg (by omega)]; exact E4 j⟩
          exact m2 _ (A1 _) (fun j => by rw [hp_i_wi, if_neg (by omega), hp_i_wi, if_neg (by omega)]; exact ⟨rfl, rfl⟩)
        obtain ⟨h4', e85, T4, E4⟩ := w85
        have J4 : Inv (zh_i h4' 212) := J3.congr (fun j _ => (E4 j).1)
        obtain ⟨b, h5', e5, S5, F5, C5, i221, i222, i223, l226, -, im5, hb⟩ := u_cq T4.1 J4 (D := d + 1) (n := n) (by omega) hn
        have T5 : Wq d h4' h5' := ⟨S5, F5, C5, i221, fun j hj => i222 j (by omega), fun j hj => i223 j (by omega), l226⟩
        have T15 : Wq d h h5' := (((T1.trans T2).trans T3).trans T4).trans T5
        rw [e85, e5]
        simp only [Option.bind_some, Option.toList_some, Option.toList_none, List.cons_append, List.nil_append]
        rw [b217_169]
        have n5 : zh_i h5' 222 d = nI (c' + 1) := by
          rw [i222 d (by omega)]
          have t4 : zh_i h4' 222 d = zh_i h1' 222 d := by
            rw [(E4 d).2, eh3, zQ_o d (by decide) (by decide) (by decide) (by decide), eh2, hp_i_ci, if_neg (by omega)]
          rw [t4, eh1, hp_i_wi, if_pos ⟨rfl, rfl⟩]
        have k5 : zh_i h5' 223 d = nI k := by rw [T15.2.2.2.2.2.1 d (Nat.le_refl _)]; exact ek
        have W5 : Inv (fun j => zh_i h5' 221 (387 * d + j)) := W.congr (fun j hj => T15.2.2.2.1 _ (by omega))
        have again : ∀ h6, Wq d h h6 → zh_i h6 222 d = nI (c' + 1) → ∀ {w3 w4 : Value}, ∃ h' v3 v4, zv 7 217 20 [.ref 211, .int (nI n), .int (nI d), w3, w4] [] h6 = zv 7 217 20 [.ref 211, .int (nI n), .int (nI d + (-1)), v3, v4] [] h' ∧ Wq d h h' := fun h6 T6 n6 {w3 w4} => by
          obtain ⟨h', v3, v4, e', T'⟩ := ihe (2 - c') (by omega) (h := h6) (u3 := w3) (u4 := w4) T6.1 (W.congr (fun j hj => T6.2.2.2.1 _ (by omega))) (by rw [T6.2.2.2.2.2.1 d (Nat.le_refl _)]; exact ek) (c' + 1) (by omega) n6
          exact ⟨h', v3, v4, e', T6.trans T'⟩
        cases b with
        | true =>
          rw [zi_bI_t, if_neg (by decide), b217_172, b217_177, b217_179, Int32.add_zero]
          exact again h5' T15 n5
        | false =>
          obtain ⟨b1, b2, k2, b3, b4, b5⟩ := hb rfl
          rw [zi_bI_f, if_pos rfl, b217_176, b217_177, b217_179, nI_s]
          obtain ⟨h6, v3, v4, e6, T6⟩ := iht (d + 1) (by omega) (by omega) (h := h5') (k := k2) (u3 := .int (nI c')) (u4 := .int x) S5 im5 b3 b4 b5 3 0 rfl b2
          have em : nI (d + 1) + (-1) = nI d := by
            rw [show (-1 : Int32) = -(1 : Int32) from rfl, ← Int32.sub_eq_add_neg, show (1 : Int32) = nI 1 from rfl, nI_sub (by omega)]; rfl
          rw [e6, em]
          exact again h6 (T15.trans T6.up) (by rw [T6.2.2.2.2.1 d (by omega)]; exact n5)
def Sq (h h' : zi_Hp) : Prop := Sh h' ∧ Fq h h' ∧ (zh_i h' 211 8 = zh_i h 211 8 ∧ (∀ j, zh_i h' 213 j = zh_i h 213 j) ∧ (∀ j, zh_b h' 214 j = zh_b h 214 j) ∧ (∀ j, zh_i h' 231 j = zh_i h 231 j)) ∧ (∀ j, zh_i h' 212 j = zh_i h 212 j)
theorem Sq.refl (S : Sh h) : Sq h h := ⟨S, Fq.refl h, ⟨rfl, fun _ => rfl, fun _ => rfl, fun _ => rfl⟩, fun _ => rfl⟩
theorem Sq.trans {a b c : zi_Hp} (p : Sq a b) (q : Sq b c) : Sq a c := by
  obtain ⟨-, p2, ⟨p3, p4, p5, p6⟩, p7⟩ := p
  obtain ⟨q1, q2, ⟨q3, q4, q5, q6⟩, q7⟩ := q
  exact ⟨q1, p2.trans q2, ⟨q3.trans p3, fun j => (q4 j).trans (p4 j), fun j => (q5 j).trans (p5 j), fun j => (q6 j).trans (p6 j)⟩, fun j => (q7 j).trans (p7 j)⟩
theorem Sq.wi {a k : Nat} {v : Int32} (S : Sh h) (ha : a = 224 ∨ a = 225 ∨ a = 227 ∨ a = 228 ∨ (a = 211 ∧ 27 ≤ k ∧ k < 38)) : Sq h (zh_wi h a k v) := ⟨S.wi _ _ _, Fq.wi (by omega), ⟨by rw [hp_i_wi, if_neg (by omega)], fun j => by rw [hp_i_wi, if_neg (by omega)], fun _ => rfl, fun j => by rw [hp_i_wi, if_neg (by omega)]⟩, fun j => by rw [hp_i_wi, if_neg (by omega)]⟩
theorem Sq.wl {a k : Nat} {v : Int64} (S : Sh h) (ha : 211 ≤ a) : Sq h (zh_wl h a k v) := ⟨S.wl _ _ _, Fq.wl ha, ⟨rfl, fun j => rfl, fun _ => rfl, fun j => rfl⟩, fun j => rfl⟩
theorem Sq.rk {a b : zi_Hp} (p : Sq a b) (k : RK a) : RK b := k.same p.2.2.1.1 p.2.2.1.2.1 p.2.2.1.2.2.1 p.2.2.1.2.2.2
theorem sr_q1 {n : Nat} : ∀ d i, i + d = 6 → ∀ {h : zi_Hp}, Sh h → ∃ h', zv 1 216 27 [.ref 211, .int (nI n), .int (nI i)] [] h = zv 1 216 61 [.ref 211, .int (nI n), .int 6] [] h' ∧ Sq h h' := by
  intro d
  induction d with
  | zero =>
    intro i hi h S
    have : i = 6 := by omega
    subst this
    exact ⟨h, by rw [b216_27, if_neg (by decide)]; rfl, Sq.refl S⟩
  | succ d ih =>
    intro i hi h S
    have e3 : nI i < 6 := nI_lt (b := 6) (by omega) (by decide)
    have hz : ¬ (nI i < 0 ∨ 6 ≤ (nI i).toNatClampNeg) := zj_n (by omega) (by decide)
    have hy : True := trivial
    have r32 : zh_r h 211 32 = .ref 227 := by rw [S.r, rx_211_32]
    have r33 : zh_r h 211 33 = .ref 228 := by rw [S.r, rx_211_33]
    have r34 : zh_r h 211 34 = .ref 229 := by rw [S.r, rx_211_34]
    rw [b216_27, if_pos e3, b216_33 (by simp +decide only [S.n, S.k, S.r, hp_n_wi, hp_k_wi, hp_r_wi, hp_n_wl, hp_k_wl, hp_r_wl, zq_rf, kx_211, kx_212, kx_221, kx_222, kx_223, kx_224, kx_225, kx_226, kx_227, kx_228, kx_229, rx_211_0, rx_211_21, rx_211_22, rx_211_23, rx_211_24, rx_211_25, rx_211_26, rx_211_32, rx_211_33, rx_211_34, hz, hy]) (by simp +decide only [S.n, S.k, S.r, hp_n_wi, hp_k_wi, hp_r_wi, hp_n_wl, hp_k_wl, hp_r_wl, zq_rf, kx_211, kx_212, kx_221, kx_222, kx_223, kx_224, kx_225, kx_226, kx_227, kx_228, kx_229, rx_211_0, rx_211_21, rx_211_22, rx_211_23, rx_211_24, rx_211_25, rx_211_26, rx_211_32, rx_211_33, rx_211_34, hz, hy]) (by simp +decide only [S.n, S.k, S.r, hp_n_wi, hp_k_wi, hp_r_wi, hp_n_wl, hp_k_wl, hp_r_wl, zq_rf, kx_211, kx_212, kx_221, kx_222, kx_223, kx_224, kx_225, kx_226, kx_227, kx_228, kx_229, rx_211_0, rx_211_21, rx_211_22, rx_211_23, rx_211_24, rx_211_25, rx_211_26, rx_211_32, rx_211_33, rx_211_34, hz, hy]) (by simp +decide only [S.n, S.k, S.r, hp_n_wi, hp_k_wi, hp_r_wi, hp_n_wl, hp_k_wl, hp_r_wl, zq_rf, kx_211, kx_212, kx_221, kx_222, kx_223, kx_224, kx_225, kx_226, kx_227, kx_228, kx_229, rx_211_0, rx_211_21, rx_211_22, rx_211_23, rx_211_24, rx_211_25, rx_211_26, rx_211_32, rx_211_33, rx_211_34, hz, hy]) (by simp +decide only [S.n, S.k, S.r, hp_n_wi, hp_k_wi, hp_r_wi, hp_n_wl, hp_k_wl, hp_r_wl, zq_rf, kx_211, kx_212, kx_221, kx_222, kx_223, kx_224, kx_225, kx_226, kx_227, kx_228, kx_229, rx_211_0, rx_211_21, rx_211_22, rx_211_23, rx_211_24, rx_211_25, rx_211_26, rx_211_32, rx_211_33, rx_211_34, hz, hy]) (by simp +decide only [S.n, S.k, S.r, hp_n_wi, hp_k_wi, hp_r_wi, hp_n_wl, hp_k_wl, hp_r_wl, zq_rf, kx_211, kx_212, kx_221, kx_222, kx_223, kx_224, kx_225, kx_226, kx_227, kx_228, kx_229, rx_211_0, rx_211_21, rx_211_22, rx_211_23, rx_211_24, rx_211_25, rx_211_26, rx_211_32, rx_211_33, rx_211_34, hz, hy]) (by simp +decide only [S.n, S.k, S.r, hp_n_wi, hp_k_wi, hp_r_wi, hp_n_wl, hp_k_wl, hp_r_wl, zq_rf, kx_211, kx_212, kx_221, kx_222, kx_223, kx_224, kx_225, kx_226, kx_227, kx_228, kx_229, rx_211_0, rx_211_21, rx_211_22, rx_211_23, rx_211_24, rx_211_25, rx_211_26, rx_211_32, rx_211_33, rx_211_34, hz, hy]) (by simp +decide only [S.n, S.k, S.r, hp_n_wi, hp_k_wi, hp_r_wi, hp_n_wl, hp_k_wl, hp_r_wl, zq_rf, kx_211, kx_212, kx_221, kx_222, kx_223, kx_224, kx_225, kx_226, kx_227, kx_228, kx_229, rx_211_0, rx_211_21, rx_211_22, rx_211_23, rx_211_24, rx_211_25, rx_211_26, rx_211_32, rx_211_33, rx_211_34, hz, hy]) (by simp +decide only [S.n, S.k, S.r, hp_n_wi, hp_k_wi, hp_r_wi, hp_n_wl, hp_k_wl, hp_r_wl, zq_rf, kx_211, kx_212, kx_221, kx_222, kx_223, kx_224, kx_225, kx_226, kx_227, kx_228, kx_229, rx_211_0, rx_211_21, rx_211_22, rx_211_23, rx_211_24, rx_211_25, rx_211_26, rx_211_32, rx_211_33, rx_211_34, hz, hy]) (by simp +decide only [S.n, S.k, S.r, hp_n_wi, hp_k_wi, hp_r_wi, hp_n_wl, hp_k_wl, hp_r_wl, zq_rf, kx_211, kx_212, kx_221, kx_222, kx_223, kx_224, kx_225, kx_226, kx_227, kx_228, kx_229, rx_211_0, rx_211_21, rx_211_22, rx_211_23, rx_211_24, rx_211_25, rx_211_26, rx_211_32, rx_211_33, rx_211_34, hz, hy]) (by simp +decide only [S.n, S.k, S.r, hp_n_wi, hp_k_wi, hp_r_wi, hp_n_wl, hp_k_wl, hp_r_wl, zq_rf, kx_211, kx_212, kx_221, kx_222, kx_223, kx_224, kx_225, kx_226, kx_227, kx_228, kx_229, rx_211_0, rx_211_21, rx_211_22, rx_211_23, rx_211_24, rx_211_25, rx_211_26, rx_211_32, rx_211_33, rx_211_34, hz, hy]) (by simp +decide only [S.n, S.k, S.r, hp_n_wi, hp_k_wi, hp_r_wi, hp_n_wl, hp_k_wl, hp_r_wl, zq_rf, kx_211, kx_212, kx_221, kx_222, kx_223, kx_224, kx_225, kx_226, kx_227, kx_228, kx_229, rx_211_0, rx_211_21, rx_211_22, rx_211_23, rx_211_24, rx_211_25, rx_211_26, rx_211_32, rx_211_33, rx_211_34, hz, hy]) (by simp +decide only [S.n, S.k, S.r, hp_n_wi, hp_k_wi, hp_r_wi, hp_n_wl, hp_k_wl, hp_r_wl, zq_rf, kx_211, kx_212, kx_221, kx_222, kx_223, kx_224, kx_225, kx_226, kx_227, kx_228, kx_229, rx_211_0, rx_211_21, rx_211_22, rx_211_23, rx_211_24, rx_211_25, rx_211_26, rx_211_32, rx_211_33, rx_211_34, hz, hy]) (by simp +decide only [S.n, S.k, S.r, hp_n_wi, hp_k_wi, hp_r_wi, hp_n_wl, hp_k_wl, hp_r_wl, zq_rf, kx_211, kx_212, kx_221, kx_222, kx_223, kx_224, kx_225, kx_226, kx_227, kx_228, kx_229, rx_211_0, rx_211_21, rx_211_22, rx_211_23, rx_211_24, rx_211_25, rx_211_26, rx_211_32, rx_211_33, rx_211_34, hz, hy]), r32, r33, r34, zq_rf, zq_rf, zq_rf, nI_s]
    have T : ∀ k1 k2 k3 v1 v2 v3, Sq h (zh_wl (zh_wi (zh_wi h 227 k1 v1) 228 k2 v2) 229 k3 v3) := fun k1 k2 k3 v1 v2 v3 => ((Sq.wi S (by omega)).trans (Sq.wi (S.wi _ _ _) (by omega))).trans (Sq.wl ((S.wi _ _ _).wi _ _ _) (by decide))
    have fin : ∀ h1, Sq h h1 → ∃ h', zv 1 216 27 [.ref 211, .int (nI n), .int (nI (i + 1))] [] h1 = zv 1 216 61 [.ref 211, .int (nI n), .int 6] [] h' ∧ Sq h h' := fun h1 T1 => by
      obtain ⟨h', e', T'⟩ := ih (i + 1) (by omega) T1.1
      exact ⟨h', e', T1.trans T'⟩
    exact fin _ (T _ _ _ _ _ _)
theorem sr_q2 {n : Nat} (hn : n ≤ 7) : ∀ d i, i + d = n → ∀ {h : zi_Hp}, Sh h → zh_l h 226 0 = wv i → ∃ h', zv 1 216 70 [.ref 211, .int (nI n), .int (nI i)] [] h = zv 1 216 93 [.ref 211, .int (nI n), .int (nI n)] [] h' ∧ Sq h h' ∧ zh_l h' 226 0 = wv n := by
  intro d
  induction d with
  | zero =>
    intro i hi h S e
    have : i = n := by omega
    subst this
    exact ⟨h, by rw [b216_70, if_neg Int32.lt_irrefl], Sq.refl S, e⟩
  | succ d ih =>
    intro i hi h S e
    have e3 : nI i < nI n := nI_lt (by omega) (by omega)
    have hz : True := trivial
    have hy : True := trivial
    have r26 : zh_r h 211 26 = .ref 226 := by rw [S.r, rx_211_26]
    rw [b216_70, if_pos e3, b216_75 (by simp +decide only [S.n, S.k, S.r, hp_n_wi, hp_k_wi, hp_r_wi, hp_n_wl, hp_k_wl, hp_r_wl, zq_rf, kx_211, kx_212, kx_221, kx_222, kx_223, kx_224, kx_225, kx_226, kx_227, kx_228, kx_229, rx_211_0, rx_211_21, rx_211_22, rx_211_23, rx_211_24, rx_211_25, rx_211_26, rx_211_32, rx_211_33, rx_211_34, hz, hy]) (by simp +decide only [S.n, S.k, S.r, hp_n_wi, hp_k_wi, hp_r_wi, hp_n_wl, hp_k_wl, hp_r_wl, zq_rf, kx_211, kx_212, kx_221, kx_222, kx_223, kx_224, kx_225, kx_226, kx_227, kx_228, kx_229, rx_211_0, rx_211_21, rx_211_22, rx_211_23, rx_211_24, rx_211_25, rx_211_26, rx_211_32, rx_211_33, rx_211_34, hz, hy]) (by simp +decide only [S.n, S.k, S.r, hp_n_wi, hp_k_wi, hp_r_wi, hp_n_wl, hp_k_wl, hp_r_wl, zq_rf, kx_211, kx_212, kx_221, kx_222, kx_223, kx_224, kx_225, kx_226, kx_227, kx_228, kx_229, rx_211_0, rx_211_21, rx_211_22, rx_211_23, rx_211_24, rx_211_25, rx_211_26, rx_211_32, rx_211_33, rx_211_34, hz, hy]) (by simp +decide only [S.n, S.k, S.r, hp_n_wi, hp_k_wi, hp_r_wi, hp_n_wl, hp_k_wl, hp_r_wl, zq_rf, kx_211, kx_212, kx_221, kx_222, kx_223, kx_224, kx_225, kx_226, kx_227, kx_228, kx_229, rx_211_0, rx_211_21, rx_211_22, rx_211_23, rx_211_24, rx_211_25, rx_211_26, rx_211_32, rx_211_33, rx_211_34, hz, hy]) (by simp +decide only [S.n, S.k, S.r, hp_n_wi, hp_k_wi, hp_r_wi, hp_n_wl, hp_k_wl, hp_r_wl, zq_rf, kx_211, kx_212, kx_221, kx_222, kx_223, kx_224, kx_225, kx_226, kx_227, kx_228, kx_229, rx_211_0, rx_211_21, rx_211_22, rx_211_23, rx_211_24, rx_211_25, rx_211_26, rx_211_32, rx_211_33, rx_211_34, hz, hy]) (by simp +decide only [S.n, S.k, S.r, hp_n_wi, hp_k_wi, hp_r_wi, hp_n_wl, hp_k_wl, hp_r_wl, zq_rf, kx_211, kx_212, kx_221, kx_222, kx_223, kx_224, kx_225, kx_226, kx_227, kx_228, kx_229, rx_211_0, rx_211_21, rx_211_22, rx_211_23, rx_211_24, rx_211_25, rx_211_26, rx_211_32, rx_211_33, rx_211_34, hz, hy]), r26, zq_rf, nI_s, e]
    obtain ⟨h', e', T', w'⟩ := ih (i + 1) (by omega) (h := zh_wl h 226 0 (wv i * 6)) (S.wl _ _ _) (by rw [hp_l_wl, if_pos ⟨rfl, rfl⟩]; rfl)
    exact ⟨h', e', (Sq.wl S (by decide)).trans T', w'⟩
theorem u_sq (S : Sh h) {n : Nat} (hn : n ≤ 7) {u2 : Value} : ∃ h', zv 1 216 0 [.ref 211, .int (nI n), u2] [] h = some (none, h') ∧ Sq h h' ∧ ¬ zh_l h' 226 0 = 0 := by
  have hz : True := trivial
  have hy : True := trivial
  rw [b216_0 (by simp +decide only [S.n, S.k, S.r, hp_n_wi, hp_k_wi, hp_r_wi, hp_n_wl, hp_k_wl, hp_r_wl, zq_rf, kx_211, kx_212, kx_221, kx_222, kx_223, kx_224, kx_225, kx_226, kx_227, kx_228, kx_229, rx_211_0, rx_211_21, rx_211_22, rx_211_23, rx_211_24, rx_211_25, rx_211_26, rx_211_32, rx_211_33, rx_211_34, hz, hy]) (by simp +decide only [S.n, S.k, S.r, hp_n_wi, hp_k_wi, hp_r_wi, hp_n_wl, hp_k_wl, hp_r_wl, zq_rf, kx_211, kx_212, kx_221, kx_222, kx_223, kx_224, kx_225, kx_226, kx_227, kx_228, kx_229, rx_211_0, rx_211_21, rx_211_22, rx_211_23, rx_211_24, rx_211_25, rx_211_26, rx_211_32, rx_211_33, rx_211_34, hz, hy])]
  have fin : ∀ h1, Sq h h1 → ∃ h', zv 1 216 27 [.ref 211, .int (nI n), .int 0] [] h1 = some (none, h') ∧ Sq h h' ∧ ¬ zh_l h' 226 0 = 0 := fun h1 T1 => by
    obtain ⟨h2, e2, T2⟩ := sr_q1 (n := n) 6 0 rfl T1.1
    have e2' : zv 1 216 27 [.ref 211, .int (nI n), .int 0] [] h1 = zv 1 216 61 [.ref 211, .int (nI n), .int 6] [] h2 := e2
    have S := T2.1
    have r26 : zh_r h2 211 26 = .ref 226 := by rw [S.r, rx_211_26]
    rw [e2', b216_61 (by simp +decide only [S.n, S.k, S.r, hp_n_wi, hp_k_wi, hp_r_wi, hp_n_wl, hp_k_wl, hp_r_wl, zq_rf, kx_211, kx_212, kx_221, kx_222, kx_223, kx_224, kx_225, kx_226, kx_227, kx_228, kx_229, rx_211_0, rx_211_21, rx_211_22, rx_211_23, rx_211_24, rx_211_25, rx_211_26, rx_211_32, rx_211_33, rx_211_34, hz, hy]) (by simp +decide only [S.n, S.k, S.r, hp_n_wi, hp_k_wi, hp_r_wi, hp_n_wl, hp_k_wl, hp_r_wl, zq_rf, kx_211, kx_212, kx_221, kx_222, kx_223, kx_224, kx_225, kx_226, kx_227, kx_228, kx_229, rx_211_0, rx_211_21, rx_211_22, rx_211_23, rx_211_24, rx_211_25, rx_211_26, rx_211_32, rx_211_33, rx_211_34, hz, hy]) (by simp +decide only [S.n, S.k, S.r, hp_n_wi, hp_k_wi, hp_r_wi, hp_n_wl, hp_k_wl, hp_r_wl, zq_rf, kx_211, kx_212, kx_221, kx_222, kx_223, kx_224, kx_225, kx_226, kx_227, kx_228, kx_229, rx_211_0, rx_211_21, rx_211_22, rx_211_23, rx_211_24, rx_211_25, rx_211_26, rx_211_32, rx_211_33, rx_211_34, hz, hy]) (by simp +decide only [S.n, S.k, S.r, hp_n_wi, hp_k_wi, hp_r_wi, hp_n_wl, hp_k_wl, hp_r_wl, zq_rf, kx_211, kx_212, kx_221, kx_222, kx_223, kx_224, kx_225, kx_226, kx_227, kx_228, kx_229, rx_211_0, rx_211_21, rx_211_22, rx_211_23, rx_211_24, rx_211_25, rx_211_26, rx_211_32, rx_211_33, rx_211_34, hz, hy]) (by simp +decide only [S.n, S.k, S.r, hp_n_wi, hp_k_wi, hp_r_wi, hp_n_wl, hp_k_wl, hp_r_wl, zq_rf, kx_211, kx_212, kx_221, kx_222, kx_223, kx_224, kx_225, kx_226, kx_227, kx_228, kx_229, rx_211_0, rx_211_21, rx_211_22, rx_211_23, rx_211_24, rx_211_25, rx_211_26, rx_211_32, rx_211_33, rx_211_34, hz, hy]) (by simp +decide only [S.n, S.k, S.r, hp_n_wi, hp_k_wi, hp_r_wi, hp_n_wl, hp_k_wl, hp_r_wl, zq_rf, kx_211, kx_212, kx_221, kx_222, kx_223, kx_224, kx_225, kx_226, kx_227, kx_228, kx_229, rx_211_0, rx_211_21, rx_211_22, rx_211_23, rx_211_24, rx_211_25, rx_211_26, rx_211_32, rx_211_33, rx_211_34, hz, hy]), r26, zq_rf]
    obtain ⟨h3, e3, T3, w3⟩ := sr_q2 hn n 0 (Nat.zero_add _) (h := zh_wl h2 226 0 1) (S.wl _ _ _) (by rw [hp_l_wl, if_pos ⟨rfl, rfl⟩]; rfl)
    have e3' : zv 1 216 70 [.ref 211, .int (nI n), .int 0] [] (zh_wl h2 226 0 1) = zv 1 216 93 [.ref 211, .int (nI n), .int (nI n)] [] h3 := e3
    have S := T3.1
    have r24 : zh_r h3 211 24 = .ref 224 := by rw [S.r, rx_211_24]
    have r25 : zh_r h3 211 25 = .ref 225 := by rw [S.r, rx_211_25]
    rw [e3', b216_93 (by simp +decide only [S.n, S.k, S.r, hp_n_wi, hp_k_wi, hp_r_wi, hp_n_wl, hp_k_wl, hp_r_wl, zq_rf, kx_211, kx_212, kx_221, kx_222, kx_223, kx_224, kx_225, kx_226, kx_227, kx_228, kx_229, rx_211_0, rx_211_21, rx_211_22, rx_211_23, rx_211_24, rx_211_25, rx_211_26, rx_211_32, rx_211_33, rx_211_34, hz, hy]) (by simp +decide only [S.n, S.k, S.r, hp_n_wi, hp_k_wi, hp_r_wi, hp_n_wl, hp_k_wl, hp_r_wl, zq_rf, kx_211, kx_212, kx_221, kx_222, kx_223, kx_224, kx_225, kx_226, kx_227, kx_228, kx_229, rx_211_0, rx_211_21, rx_211_22, rx_211_23, rx_211_24, rx_211_25, rx_211_26, rx_211_32, rx_211_33, rx_211_34, hz, hy]) (by simp +decide only [S.n, S.k, S.r, hp_n_wi, hp_k_wi, hp_r_wi, hp_n_wl, hp_k_wl, hp_r_wl, zq_rf, kx_211, kx_212, kx_221, kx_222, kx_223, kx_224, kx_225, kx_226, kx_227, kx_228, kx_229, rx_211_0, rx_211_21, rx_211_22, rx_211_23, rx_211_24, rx_211_25, rx_211_26, rx_211_32, rx_211_33, rx_211_34, hz, hy]) (by simp +decide only [S.n, S.k, S.r, hp_n_wi, hp_k_wi, hp_r_wi, hp_n_wl, hp_k_wl, hp_r_wl, zq_rf, kx_211, kx_212, kx_221, kx_222, kx_223, kx_224, kx_225, kx_226, kx_227, kx_228, kx_229, rx_211_0, rx_211_21, rx_211_22, rx_211_23, rx_211_24, rx_211_25, rx_211_26, rx_211_32, rx_211_33, rx_211_34, hz, hy]) (by simp +decide only [S.n, S.k, S.r, hp_n_wi, hp_k_wi, hp_r_wi, hp_n_wl, hp_k_wl, hp_r_wl, zq_rf, kx_211, kx_212, kx_221, kx_222, kx_223, kx_224, kx_225, kx_226, kx_227, kx_228, kx_229, rx_211_0, rx_211_21, rx_211_22, rx_211_23, rx_211_24, rx_211_25, rx_211_26, rx_211_32, rx_211_33, rx_211_34, hz, hy]) (by simp +decide only [S.n, S.k, S.r, hp_n_wi, hp_k_wi, hp_r_wi, hp_n_wl, hp_k_wl, hp_r_wl, zq_rf, kx_211, kx_212, kx_221, kx_222, kx_223, kx_224, kx_225, kx_226, kx_227, kx_228, kx_229, rx_211_0, rx_211_21, rx_211_22, rx_211_23, rx_211_24, rx_211_25, rx_211_26, rx_211_32, rx_211_33, rx_211_34, hz, hy]) (by simp +decide only [S.n, S.k, S.r, hp_n_wi, hp_k_wi, hp_r_wi, hp_n_wl, hp_k_wl, hp_r_wl, zq_rf, kx_211, kx_212, kx_221, kx_222, kx_223, kx_224, kx_225, kx_226, kx_227, kx_228, kx_229, rx_211_0, rx_211_21, rx_211_22, rx_211_23, rx_211_24, rx_211_25, rx_211_26, rx_211_32, rx_211_33, rx_211_34, hz, hy]) (by simp +decide only [S.n, S.k, S.r, hp_n_wi, hp_k_wi, hp_r_wi, hp_n_wl, hp_k_wl, hp_r_wl, zq_rf, kx_211, kx_212, kx_221, kx_222, kx_223, kx_224, kx_225, kx_226, kx_227, kx_228, kx_229, rx_211_0, rx_211_21, rx_211_22, rx_211_23, rx_211_24, rx_211_25, rx_211_26, rx_211_32, rx_211_33, rx_211_34, hz, hy]) (by simp +decide only [S.n, S.k, S.r, hp_n_wi, hp_k_wi, hp_r_wi, hp_n_wl, hp_k_wl, hp_r_wl, zq_rf, kx_211, kx_212, kx_221, kx_222, kx_223, kx_224, kx_225, kx_226, kx_227, kx_228, kx_229, rx_211_0, rx_211_21, rx_211_22, rx_211_23, rx_211_24, rx_211_25, rx_211_26, rx_211_32, rx_211_33, rx_211_34, hz, hy]) (by simp +decide only [S.n, S.k, S.r, hp_n_wi, hp_k_wi, hp_r_wi, hp_n_wl, hp_k_wl, hp_r_wl, zq_rf, kx_211, kx_212, kx_221, kx_222, kx_223, kx_224, kx_225, kx_226, kx_227, kx_228, kx_229, rx_211_0, rx_211_21, rx_211_22, rx_211_23, rx_211_24, rx_211_25, rx_211_26, rx_211_32, rx_211_33, rx_211_34, hz, hy]), r24, r25, zq_rf, zq_rf]
    refine ⟨_, rfl, ((((T1.trans T2).trans (Sq.wl T2.1 (by decide))).trans T3).trans (Sq.wi S (by omega))).trans (Sq.wi (S.wi _ _ _) (by omega)), ?_⟩
    show ¬ zh_l h3 226 0 = 0
    rw [w3]; exact wv_nz hn
  exact fin _ (((((Sq.wi S (by omega)).trans (Sq.wi (S.wi _ _ _) (by omega))).trans (Sq.wi ((S.wi _ _ _).wi _ _ _) (by omega))).trans (Sq.wi (((S.wi _ _ _).wi _ _ _).wi _ _ _) (by omega))).trans (Sq.wi ((((S.wi _ _ _).wi _ _ _).wi _ _ _).wi _ _ _) (by omega)))
/-- all rows -/
theorem o_fq (O : RO h) {n : Nat} (hn : n ≤ 7) {u2 u3 u4 : Value} : ∃ h', zv 7 217 0 [.ref 211, .int (nI n), u2, u3, u4] [] h = some (none, h') ∧ RO h' ∧ Fz h h' ∧ ¬ zh_l h' 226 0 = 0 := by
  obtain ⟨S, J, k⟩ := id O
  obtain ⟨h1, e1, T1, z1⟩ := u_sq S hn (u2 := .double 0)
  have J1 : Inv (zh_i h1 212) := J.congr (fun j _ => T1.2.2.2 j)
  obtain ⟨b, h2, e2, S2, F2, C2, -, -, -, l2, eq2, im2, hb⟩ := u_cq T1.1 J1 (D := 0) (n := n) (by omega) hn
  have k2 : RK h2 := (T1.rk k).same C2.1 C2.2.1 C2.2.2.1 C2.2.2.2
  have e2' : zv 6 215 0 [.ref 211, .int 0, .int (nI n)] [] h1 = some (some (.int (zi_bI b)), h2) := e2
  rw [b217_0 (S_g0 S) (S_g1 S), e1]
  simp only [Option.bind_some, Option.toList_some, Option.toList_none, List.cons_append, List.nil_append]
  rw [b217_5 (S_g0 T1.1) (S_g1 T1.1), e2']
  simp only [Option.bind_some, Option.toList_some, Option.toList_none, List.cons_append, List.nil_append]
  have fin : ∀ h3, Sh h3 → RK h3 → Fq h2 h3 → zh_l h3 226 0 = zh_l h2 226 0 → Inv (fun j => zh_i h3 221 (387 * 0 + j)) → (∀ j, j < 387 → zh_i h3 221 (387 * 0 + j) = zh_i h2 221 (387 * 0 + j)) → (∀ j, zh_i h3 213 j = zh_i h2 213 j) → (∀ j, zh_b h3 214 j = zh_b h2 214 j) → ∀ {v3 v4 : Value}, ∃ h', zv 7 217 20 [.ref 211, .int (nI n), .int (-1), v3, v4] [] h3 = some (none, h') ∧ RO h' ∧ Fz h h' ∧ ¬ zh_l h' 226 0 = 0 := fun h3 S3 k3 F3 l3 W3 q1 q2 q3 {v3 v4} => by
    have rs : zv 1 212 0 [.ref 211, .int 0, .double 0] [] h3 = some (none, zh_ci h3 221 (387 * 0) 212 0 387) := c_restores S3 (d := 0) (by decide)
    rw [b217_20, if_pos (by decide), b217_182 (S_g0 S3) (S_g1 S3), rs]
    simp only [Option.bind_some, Option.toList_some, Option.toList_none, List.cons_append, List.nil_append]
    rw [b217_187]
    refine ⟨_, rfl, ⟨S3.ci _ _ _ _ _, W3.congr (fun j hj => by rw [hp_i_ci, if_pos ⟨rfl, by omega, by omega⟩, Nat.sub_zero]), k3.same (by rw [hp_i_ci, if_neg (by decide)]) (fun j => by rw [hp_i_ci, if_neg (by omega)]) (fun j => rfl) (fun j => by rw [hp_i_ci, if_neg (by omega)])⟩, ⟨((T1.2.1.trans F2).trans F3).trans (Fq.ci (by decide)), fun j hj => by rw [hp_i_ci, if_pos ⟨rfl, by omega, by omega⟩, Nat.sub_zero, q1 j hj, eq2 j hj, T1.2.2.2], fun j => by rw [hp_i_ci, if_neg (by omega), q2, C2.2.1, T1.2.2.1.2.1], fun j => by
      show zh_b h3 214 j = _
      rw [q3, C2.2.2.1, T1.2.2.1.2.2.1]⟩, ?_⟩
    show ¬ zh_l h3 226 0 = 0
    rw [l3, l2]; exact z1
  rw [b217_11]
  cases b with
  | true =>
    rw [zi_bI_t, if_neg (by decide), b217_14, b217_19]
    exact fin h2 S2 k2 (Fq.refl _) rfl im2 (fun _ _ => rfl) (fun _ => rfl) (fun _ => rfl)
  | false =>
    obtain ⟨b1, b2, kk, b3, b4, b5⟩ := hb rfl
    rw [zi_bI_f, if_pos rfl, b217_18, b217_19]
    obtain ⟨h3, v3, v4, e3, T3⟩ := fr_dq hn n 0 (Nat.zero_add _) b1 (h := h2) (k := kk) (u3 := u3) (u4 := u4) S2 im2 b3 b4 b5 3 0 rfl b2
    have e3' : zv 7 217 20 [.ref 211, .int (nI n), .int 0, u3, u4] [] h2 = zv 7 217 20 [.ref 211, .int (nI n), .int (-1), v3, v4] [] h3 := e3
    rw [e3']
    exact fin h3 T3.1 (T3.rk k2) T3.2.1 T3.2.2.2.2.2.2 (im2.congr (fun j hj => T3.2.2.2.1 _ (by omega))) (fun j hj => T3.2.2.2.1 _ (by omega)) T3.2.2.1.2.1 T3.2.2.1.2.2.1
theorem o_rowq (O : RO h) (x y : Int32) : RCq h (zv 8 218 0 [.ref 211, .int x, .int y] [] h) := by
  obtain ⟨S, J, k⟩ := id O
  rw [b218_0, show (0 : Int64) = (nI 0).toInt64 from rfl, show (7 : Int64) = (nI 7).toInt64 from rfl]
  rcases in_or x 0 7 (by decide) (by decide) with ⟨n, -, hn, rfl, hx⟩ | hx
  · rw [c_iy hx]
    simp only [Option.bind_some, Option.toList_some, Option.toList_none, List.cons_append, List.nil_append]
    rw [b218_9, if_neg (by decide), b218_12, show (0 : Int64) = (nI 0).toInt64 from rfl, show (4 : Int64) = (nI 4).toInt64 from rfl]
    rcases in_or y 0 4 (by decide) (by decide) with ⟨w, -, hw, rfl, hy⟩ | hy
    · obtain ⟨h1, e1, O1, F1, -⟩ := o_fq O hn (u2 := .double 0) (u3 := .double 0) (u4 := .double 0)
      have S1 := O1.1
      rw [c_iy hy]
      simp only [Option.bind_some, Option.toList_some, Option.toList_none, List.cons_append, List.nil_append]
      rw [b218_21, if_neg (by decide), b218_26 (S_g0 S) (S_g1 S), e1]
      simp only [Option.bind_some, Option.toList_some, Option.toList_none, List.cons_append, List.nil_append]
      have : w = 0 ∨ w = 1 ∨ w = 2 ∨ w = 3 ∨ w = 4 := by omega
      rcases this with rfl | rfl | rfl | rfl | rfl
      · rw [b218_31_c0 (x2 := nI 0) rfl, b218_64 (S_g0 S1) (S_g1 S1)]; exact ⟨_, h1, rfl, O1, F1⟩
      · rw [b218_31_c1 (x2 := nI 1) rfl, b218_69 (S_g0 S1) (S_g1 S1)]; exact ⟨_, h1, rfl, O1, F1⟩
      · rw [b218_31_c2 (x2 := nI 2) rfl, b218_74 (S_g0 S1) (S_g1 S1)]; exact ⟨_, h1, rfl, O1, F1⟩
      · rw [b218_31_c3 (x2 := nI 3) rfl, b218_79 (S_g0 S1) (S_g1 S1)]; exact ⟨_, h1, rfl, O1, F1⟩
      · rw [b218_31_d (x2 := nI 4) (by decide), b218_84 (S_g0 S1) (S_g1 S1)]; exact ⟨_, h1, rfl, O1, F1⟩
    · rw [c_iz hy]
      simp only [Option.bind_some, Option.toList_some, Option.toList_none, List.cons_append, List.nil_append]
      rw [b218_21, if_pos rfl, b218_24]; exact sm_rq O ⟨_, rfl⟩
  · rw [c_iz hx]
    simp only [Option.bind_some, Option.toList_some, Option.toList_none, List.cons_append, List.nil_append]
    rw [b218_9, if_pos rfl, b218_24]; exact sm_rq O ⟨_, rfl⟩
theorem o_answeq (O : RO h) (x y w : Int32) : RCq h (zv 8 220 0 [.ref 211, .int x, .int y, .int w] [] h) := by
  rcases q_as x y w with ⟨c, n, a, hc, hn, ha, rfl, rfl, rfl, e⟩ | e
  · obtain ⟨h1, e1, O1, F1, -⟩ := o_fq O hn (u2 := .double 0) (u3 := .double 0) (u4 := .double 0)
    have S := O1.1
    have hz : True := trivial
    have hy : ¬ (nI (2 * c + a) < 0 ∨ 6 ≤ (nI (2 * c + a)).toNatClampNeg) := zj_n (by omega) (by decide)
    rw [b220_0, e]
    simp only [Option.bind_some, Option.toList_some, Option.toList_none, List.cons_append, List.nil_append]
    rw [b220_6, if_neg (by decide), b220_11 (S_g0 O.1) (S_g1 O.1), e1]
    simp only [Option.bind_some, Option.toList_some, Option.toList_none, List.cons_append, List.nil_append]
    rw [b220_16 (by simp +decide only [S.n, S.k, S.r, hp_n_wi, hp_k_wi, hp_r_wi, hp_n_wl, hp_k_wl, hp_r_wl, zq_rf, kx_211, kx_212, kx_221, kx_222, kx_223, kx_224, kx_225, kx_226, kx_227, kx_228, kx_229, rx_211_0, rx_211_21, rx_211_22, rx_211_23, rx_211_24, rx_211_25, rx_211_26, rx_211_32, rx_211_33, rx_211_34, hz, hy]) (by simp +decide only [S.n, S.k, S.r, hp_n_wi, hp_k_wi, hp_r_wi, hp_n_wl, hp_k_wl, hp_r_wl, zq_rf, kx_211, kx_212, kx_221, kx_222, kx_223, kx_224, kx_225, kx_226, kx_227, kx_228, kx_229, rx_211_0, rx_211_21, rx_211_22, rx_211_23, rx_211_24, rx_211_25, rx_211_26, rx_211_32, rx_211_33, rx_211_34, hz, hy]) (by simp +decide only [S.n, S.k, S.r, hp_n_wi, hp_k_wi, hp_r_wi, hp_n_wl, hp_k_wl, hp_r_wl, zq_rf, kx_211, kx_212, kx_221, kx_222, kx_223, kx_224, kx_225, kx_226, kx_227, kx_228, kx_229, rx_211_0, rx_211_21, rx_211_22, rx_211_23, rx_211_24, rx_211_25, rx_211_26, rx_211_32, rx_211_33, rx_211_34, hz, hy]) (by simp +decide only [S.n, S.k, S.r, hp_n_wi, hp_k_wi, hp_r_wi, hp_n_wl, hp_k_wl, hp_r_wl, zq_rf, kx_211, kx_212, kx_221, kx_222, kx_223, kx_224, kx_225, kx_226, kx_227, kx_228, kx_229, rx_211_0, rx_211_21, rx_211_22, rx_211_23, rx_211_24, rx_211_25, rx_211_26, rx_211_32, rx_211_33, rx_211_34, hz, hy]) (by rw [nI_i2]; exact (by simp +decide only [S.n, S.k, S.r, hp_n_wi, hp_k_wi, hp_r_wi, hp_n_wl, hp_k_wl, hp_r_wl, zq_rf, kx_211, kx_212, kx_221, kx_222, kx_223, kx_224, kx_225, kx_226, kx_227, kx_228, kx_229, rx_211_0, rx_211_21, rx_211_22, rx_211_23, rx_211_24, rx_211_25, rx_211_26, rx_211_32, rx_211_33, rx_211_34, hz, hy])) (by simp +decide only [S.n, S.k, S.r, hp_n_wi, hp_k_wi, hp_r_wi, hp_n_wl, hp_k_wl, hp_r_wl, zq_rf, kx_211, kx_212, kx_221, kx_222, kx_223, kx_224, kx_225, kx_226, kx_227, kx_228, kx_229, rx_211_0, rx_211_21, rx_211_22, rx_211_23, rx_211_24, rx_211_25, rx_211_26, rx_211_32, rx_211_33, rx_211_34, hz, hy])]
    exact ⟨_, h1, rfl, O1, F1⟩
  · rw [b220_0, e]
    simp only [Option.bind_some, Option.toList_some, Option.toList_none, List.cons_append, List.nil_append]
    rw [b220_6, if_pos rfl, b220_9]; exact sm_rq O ⟨_, rfl⟩
theorem o_firsq (O : RO h) (x y w : Int32) : RCq h (zv 8 221 0 [.ref 211, .int x, .int y, .int w] [] h) := by
  rcases q_as x y w with ⟨c, n, a, hc, hn, ha, rfl, rfl, rfl, e⟩ | e
  · obtain ⟨h1, e1, O1, F1, -⟩ := o_fq O hn (u2 := .double 0) (u3 := .double 0) (u4 := .double 0)
    have S := O1.1
    have hz : True := trivial
    have hy : ¬ (nI (2 * c + a) < 0 ∨ 6 ≤ (nI (2 * c + a)).toNatClampNeg) := zj_n (by omega) (by decide)
    rw [b221_0, e]
    simp only [Option.bind_some, Option.toList_some, Option.toList_none, List.cons_append, List.nil_append]
    rw [b221_6, if_neg (by decide), b221_11 (S_g0 O.1) (S_g1 O.1), e1]
    simp only [Option.bind_some, Option.toList_some, Option.toList_none, List.cons_append, List.nil_append]
    rw [b221_16 (by simp +decide only [S.n, S.k, S.r, hp_n_wi, hp_k_wi, hp_r_wi, hp_n_wl, hp_k_wl, hp_r_wl, zq_rf, kx_211, kx_212, kx_221, kx_222, kx_223, kx_224, kx_225, kx_226, kx_227, kx_228, kx_229, rx_211_0, rx_211_21, rx_211_22, rx_211_23, rx_211_24, rx_211_25, rx_211_26, rx_211_32, rx_211_33, rx_211_34, hz, hy]) (by simp +decide only [S.n, S.k, S.r, hp_n_wi, hp_k_wi, hp_r_wi, hp_n_wl, hp_k_wl, hp_r_wl, zq_rf, kx_211, kx_212, kx_221, kx_222, kx_223, kx_224, kx_225, kx_226, kx_227, kx_228, kx_229, rx_211_0, rx_211_21, rx_211_22, rx_211_23, rx_211_24, rx_211_25, rx_211_26, rx_211_32, rx_211_33, rx_211_34, hz, hy]) (by simp +decide only [S.n, S.k, S.r, hp_n_wi, hp_k_wi, hp_r_wi, hp_n_wl, hp_k_wl, hp_r_wl, zq_rf, kx_211, kx_212, kx_221, kx_222, kx_223, kx_224, kx_225, kx_226, kx_227, kx_228, kx_229, rx_211_0, rx_211_21, rx_211_22, rx_211_23, rx_211_24, rx_211_25, rx_211_26, rx_211_32, rx_211_33, rx_211_34, hz, hy]) (by simp +decide only [S.n, S.k, S.r, hp_n_wi, hp_k_wi, hp_r_wi, hp_n_wl, hp_k_wl, hp_r_wl, zq_rf, kx_211, kx_212, kx_221, kx_222, kx_223, kx_224, kx_225, kx_226, kx_227, kx_228, kx_229, rx_211_0, rx_211_21, rx_211_22, rx_211_23, rx_211_24, rx_211_25, rx_211_26, rx_211_32, rx_211_33, rx_211_34, hz, hy]) (by rw [nI_i2]; exact (by simp +decide only [S.n, S.k, S.r, hp_n_wi, hp_k_wi, hp_r_wi, hp_n_wl, hp_k_wl, hp_r_wl, zq_rf, kx_211, kx_212, kx_221, kx_222, kx_223, kx_224, kx_225, kx_226, kx_227, kx_228, kx_229, rx_211_0, rx_211_21, rx_211_22, rx_211_23, rx_211_24, rx_211_25, rx_211_26, rx_211_32, rx_211_33, rx_211_34, hz, hy])) (by simp +decide only [S.n, S.k, S.r, hp_n_wi, hp_k_wi, hp_r_wi, hp_n_wl, hp_k_wl, hp_r_wl, zq_rf, kx_211, kx_212, kx_221, kx_222, kx_223, kx_224, kx_225, kx_226, kx_227, kx_228, kx_229, rx_211_0, rx_211_21, rx_211_22, rx_211_23, rx_211_24, rx_211_25, rx_211_26, rx_211_32, rx_211_33, rx_211_34, hz, hy])]
    exact ⟨_, h1, rfl, O1, F1⟩
  · rw [b221_0, e]
    simp only [Option.bind_some, Option.toList_some, Option.toList_none, List.cons_append, List.nil_append]
    rw [b221_6, if_pos rfl, b221_9]; exact sm_rq O ⟨_, rfl⟩
/-- what a call that answers a long leaves -/
def RClq (h : zi_Hp) (o : Option zi_Rt) : Prop := ∃ x h', o = some (some (.long x), h') ∧ RO h' ∧ Fz h h'
theorem o_chancq (O : RO h) (x y w v : Int32) {u5 u6 : Value} : RClq h (zv 8 223 0 [.ref 211, .int x, .int y, .int w, .int v, u5, u6] [] h) := by
  have bad : RClq h (some (some (.long (-1)), h)) := ⟨_, h, rfl, O, Fz.refl⟩
  rcases q_as x y w with ⟨c, n, a, hc, hn, ha, rfl, rfl, rfl, e⟩ | e
  · obtain ⟨h1, e1, O1, F1, z1⟩ := o_fq O hn (u2 := .double 0) (u3 := .double 0) (u4 := .double 0)
    have S := O1.1
    have hz : True := trivial
    have hy : ¬ (nI (2 * c + a) < 0 ∨ 6 ≤ (nI (2 * c + a)).toNatClampNeg) := zj_n (by omega) (by decide)
    rw [b223_0, e]
    simp only [Option.bind_some, Option.toList_some, Option.toList_none, List.cons_append, List.nil_append]
    rw [b223_6, if_neg (by decide), b223_9, b196_0, show (0 : Int64) = (0 : Int32).toInt64 from rfl, show (1 : Int64) = (1 : Int32).toInt64 from rfl, c_inI]
    simp only [Option.bind_some, Option.toList_some, Option.toList_none, List.cons_append, List.nil_append]
    by_cases hv : (0 : Int32) ≤ v ∧ v ≤ 1
    · have r26 : zh_r h1 211 26 = .ref 226 := by rw [S.r, rx_211_26]
      rw [if_pos hv, b196_7 (Or.inr rfl)]
      simp only [Option.bind_some, Option.toList_some, Option.toList_none, List.cons_append, List.nil_append]
      rw [b223_14, if_neg (by decide), b223_21 (S_g0 O.1) (S_g1 O.1), e1]
      simp only [Option.bind_some, Option.toList_some, Option.toList_none, List.cons_append, List.nil_append]
      rw [b223_26 (by simp +decide only [S.n, S.k, S.r, hp_n_wi, hp_k_wi, hp_r_wi, hp_n_wl, hp_k_wl, hp_r_wl, zq_rf, kx_211, kx_212, kx_221, kx_222, kx_223, kx_224, kx_225, kx_226, kx_227, kx_228, kx_229, rx_211_0, rx_211_21, rx_211_22, rx_211_23, rx_211_24, rx_211_25, rx_211_26, rx_211_32, rx_211_33, rx_211_34, hz, hy]) (by simp +decide only [S.n, S.k, S.r, hp_n_wi, hp_k_wi, hp_r_wi, hp_n_wl, hp_k_wl, hp_r_wl, zq_rf, kx_211, kx_212, kx_221, kx_222, kx_223, kx_224, kx_225, kx_226, kx_227, kx_228, kx_229, rx_211_0, rx_211_21, rx_211_22, rx_211_23, rx_211_24, rx_211_25, rx_211_26, rx_211_32, rx_211_33, rx_211_34, hz, hy]) (by simp +decide only [S.n, S.k, S.r, hp_n_wi, hp_k_wi, hp_r_wi, hp_n_wl, hp_k_wl, hp_r_wl, zq_rf, kx_211, kx_212, kx_221, kx_222, kx_223, kx_224, kx_225, kx_226, kx_227, kx_228, kx_229, rx_211_0, rx_211_21, rx_211_22, rx_211_23, rx_211_24, rx_211_25, rx_211_26, rx_211_32, rx_211_33, rx_211_34, hz, hy]) (by simp +decide only [S.n, S.k, S.r, hp_n_wi, hp_k_wi, hp_r_wi, hp_n_wl, hp_k_wl, hp_r_wl, zq_rf, kx_211, kx_212, kx_221, kx_222, kx_223, kx_224, kx_225, kx_226, kx_227, kx_228, kx_229, rx_211_0, rx_211_21, rx_211_22, rx_211_23, rx_211_24, rx_211_25, rx_211_26, rx_211_32, rx_211_33, rx_211_34, hz, hy]) (by simp +decide only [S.n, S.k, S.r, hp_n_wi, hp_k_wi, hp_r_wi, hp_n_wl, hp_k_wl, hp_r_wl, zq_rf, kx_211, kx_212, kx_221, kx_222, kx_223, kx_224, kx_225, kx_226, kx_227, kx_228, kx_229, rx_211_0, rx_211_21, rx_211_22, rx_211_23, rx_211_24, rx_211_25, rx_211_26, rx_211_32, rx_211_33, rx_211_34, hz, hy]) (by simp +decide only [S.n, S.k, S.r, hp_n_wi, hp_k_wi, hp_r_wi, hp_n_wl, hp_k_wl, hp_r_wl, zq_rf, kx_211, kx_212, kx_221, kx_222, kx_223, kx_224, kx_225, kx_226, kx_227, kx_228, kx_229, rx_211_0, rx_211_21, rx_211_22, rx_211_23, rx_211_24, rx_211_25, rx_211_26, rx_211_32, rx_211_33, rx_211_34, hz, hy]) (by simp +decide only [S.n, S.k, S.r, hp_n_wi, hp_k_wi, hp_r_wi, hp_n_wl, hp_k_wl, hp_r_wl, zq_rf, kx_211, kx_212, kx_221, kx_222, kx_223, kx_224, kx_225, kx_226, kx_227, kx_228, kx_229, rx_211_0, rx_211_21, rx_211_22, rx_211_23, rx_211_24, rx_211_25, rx_211_26, rx_211_32, rx_211_33, rx_211_34, hz, hy]) (by simp +decide only [S.n, S.k, S.r, hp_n_wi, hp_k_wi, hp_r_wi, hp_n_wl, hp_k_wl, hp_r_wl, zq_rf, kx_211, kx_212, kx_221, kx_222, kx_223, kx_224, kx_225, kx_226, kx_227, kx_228, kx_229, rx_211_0, rx_211_21, rx_211_22, rx_211_23, rx_211_24, rx_211_25, rx_211_26, rx_211_32, rx_211_33, rx_211_34, hz, hy]) (by rw [nI_i2]; exact (by simp +decide only [S.n, S.k, S.r, hp_n_wi, hp_k_wi, hp_r_wi, hp_n_wl, hp_k_wl, hp_r_wl, zq_rf, kx_211, kx_212, kx_221, kx_222, kx_223, kx_224, kx_225, kx_226, kx_227, kx_228, kx_229, rx_211_0, rx_211_21, rx_211_22, rx_211_23, rx_211_24, rx_211_25, rx_211_26, rx_211_32, rx_211_33, rx_211_34, hz, hy])) (by simp +decide only [S.n, S.k, S.r, hp_n_wi, hp_k_wi, hp_r_wi, hp_n_wl, hp_k_wl, hp_r_wl, zq_rf, kx_211, kx_212, kx_221, kx_222, kx_223, kx_224, kx_225, kx_226, kx_227, kx_228, kx_229, rx_211_0, rx_211_21, rx_211_22, rx_211_23, rx_211_24, rx_211_25, rx_211_26, rx_211_32, rx_211_33, rx_211_34, hz, hy]), r26, zq_rf, b222_0]
      generalize zh_l h1 (zq (zh_r h1 211 34)) ((2 : Int32) * nI c + nI a).toNatClampNeg = y2
      obtain ⟨g, eg, ng⟩ := q_gcd (h := h1) (y2.toInt.natAbs + 1) (y0 := zh_l h1 226 0) (y2 := y2) (y4 := zh_l h1 226 0) (y6 := y2) (u8 := .double 0) (u9 := .double 0) (Nat.lt_succ_self _) z1
      rw [eg]
      simp only [Option.bind_some, Option.toList_some, Option.toList_none, List.cons_append, List.nil_append]
      rw [b223_45]
      split
      · rw [b223_52 (by simp +decide only [S.n, S.k, S.r, hp_n_wi, hp_k_wi, hp_r_wi, hp_n_wl, hp_k_wl, hp_r_wl, zq_rf, kx_211, kx_212, kx_221, kx_222, kx_223, kx_224, kx_225, kx_226, kx_227, kx_228, kx_229, rx_211_0, rx_211_21, rx_211_22, rx_211_23, rx_211_24, rx_211_25, rx_211_26, rx_211_32, rx_211_33, rx_211_34, hz, hy]) (by simp +decide only [S.n, S.k, S.r, hp_n_wi, hp_k_wi, hp_r_wi, hp_n_wl, hp_k_wl, hp_r_wl, zq_rf, kx_211, kx_212, kx_221, kx_222, kx_223, kx_224, kx_225, kx_226, kx_227, kx_228, kx_229, rx_211_0, rx_211_21, rx_211_22, rx_211_23, rx_211_24, rx_211_25, rx_211_26, rx_211_32, rx_211_33, rx_211_34, hz, hy]) (by simp +decide only [S.n, S.k, S.r, hp_n_wi, hp_k_wi, hp_r_wi, hp_n_wl, hp_k_wl, hp_r_wl, zq_rf, kx_211, kx_212, kx_221, kx_222, kx_223, kx_224, kx_225, kx_226, kx_227, kx_228, kx_229, rx_211_0, rx_211_21, rx_211_22, rx_211_23, rx_211_24, rx_211_25, rx_211_26, rx_211_32, rx_211_33, rx_211_34, hz, hy]) (by simp +decide only [S.n, S.k, S.r, hp_n_wi, hp_k_wi, hp_r_wi, hp_n_wl, hp_k_wl, hp_r_wl, zq_rf, kx_211, kx_212, kx_221, kx_222, kx_223, kx_224, kx_225, kx_226, kx_227, kx_228, kx_229, rx_211_0, rx_211_21, rx_211_22, rx_211_23, rx_211_24, rx_211_25, rx_211_26, rx_211_32, rx_211_33, rx_211_34, hz, hy]) (by rw [nI_i2]; exact (by simp +decide only [S.n, S.k, S.r, hp_n_wi, hp_k_wi, hp_r_wi, hp_n_wl, hp_k_wl, hp_r_wl, zq_rf, kx_211, kx_212, kx_221, kx_222, kx_223, kx_224, kx_225, kx_226, kx_227, kx_228, kx_229, rx_211_0, rx_211_21, rx_211_22, rx_211_23, rx_211_24, rx_211_25, rx_211_26, rx_211_32, rx_211_33, rx_211_34, hz, hy])) (by simp +decide only [S.n, S.k, S.r, hp_n_wi, hp_k_wi, hp_r_wi, hp_n_wl, hp_k_wl, hp_r_wl, zq_rf, kx_211, kx_212, kx_221, kx_222, kx_223, kx_224, kx_225, kx_226, kx_227, kx_228, kx_229, rx_211_0, rx_211_21, rx_211_22, rx_211_23, rx_211_24, rx_211_25, rx_211_26, rx_211_32, rx_211_33, rx_211_34, hz, hy]) ng, b223_77]; exact ⟨_, h1, rfl, O1, F1⟩
      · rw [b223_68 (by simp +decide only [S.n, S.k, S.r, hp_n_wi, hp_k_wi, hp_r_wi, hp_n_wl, hp_k_wl, hp_r_wl, zq_rf, kx_211, kx_212, kx_221, kx_222, kx_223, kx_224, kx_225, kx_226, kx_227, kx_228, kx_229, rx_211_0, rx_211_21, rx_211_22, rx_211_23, rx_211_24, rx_211_25, rx_211_26, rx_211_32, rx_211_33, rx_211_34, hz, hy]) (by simp +decide only [S.n, S.k, S.r, hp_n_wi, hp_k_wi, hp_r_wi, hp_n_wl, hp_k_wl, hp_r_wl, zq_rf, kx_211, kx_212, kx_221, kx_222, kx_223, kx_224, kx_225, kx_226, kx_227, kx_228, kx_229, rx_211_0, rx_211_21, rx_211_22, rx_211_23, rx_211_24, rx_211_25, rx_211_26, rx_211_32, rx_211_33, rx_211_34, hz, hy]) (by simp +decide only [S.n, S.k, S.r, hp_n_wi, hp_k_wi, hp_r_wi, hp_n_wl, hp_k_wl, hp_r_wl, zq_rf, kx_211, kx_212, kx_221, kx_222, kx_223, kx_224, kx_225, kx_226, kx_227, kx_228, kx_229, rx_211_0, rx_211_21, rx_211_22, rx_211_23, rx_211_24, rx_211_25, rx_211_26, rx_211_32, rx_211_33, rx_211_34, hz, hy]) (by simp +decide only [S.n, S.k, S.r, hp_n_wi, hp_k_wi, hp_r_wi, hp_n_wl, hp_k_wl, hp_r_wl, zq_rf, kx_211, kx_212, kx_221, kx_222, kx_223, kx_224, kx_225, kx_226, kx_227, kx_228, kx_229, rx_211_0, rx_211_21, rx_211_22, rx_211_23, rx_211_24, rx_211_25, rx_211_26, rx_211_32, rx_211_33, rx_211_34, hz, hy]) (by simp +decide only [S.n, S.k, S.r, hp_n_wi, hp_k_wi, hp_r_wi, hp_n_wl, hp_k_wl, hp_r_wl, zq_rf, kx_211, kx_212, kx_221, kx_222, kx_223, kx_224, kx_225, kx_226, kx_227, kx_228, kx_229, rx_211_0, rx_211_21, rx_211_22, rx_211_23, rx_211_24, rx_211_25, rx_211_26, rx_211_32, rx_211_33, rx_211_34, hz, hy]) (by simp +decide only [S.n, S.k, S.r, hp_n_wi, hp_k_wi, hp_r_wi, hp_n_wl, hp_k_wl, hp_r_wl, zq_rf, kx_211, kx_212, kx_221, kx_222, kx_223, kx_224, kx_225, kx_226, kx_227, kx_228, kx_229, rx_211_0, rx_211_21, rx_211_22, rx_211_23, rx_211_24, rx_211_25, rx_211_26, rx_211_32, rx_211_33, rx_211_34, hz, hy]) ng, b223_77]; exact ⟨_, h1, rfl, O1, F1⟩
    · rw [if_neg hv, b196_7 (Or.inl rfl)]
      simp only [Option.bind_some, Option.toList_some, Option.toList_none, List.cons_append, List.nil_append]
      rw [b223_14, if_pos rfl, b223_17]; exact bad
  · rw [b223_0, e]
    simp only [Option.bind_some, Option.toList_some, Option.toList_none, List.cons_append, List.nil_append]
    rw [b223_6, if_pos rfl, b223_17]; exact bad
end R34T
end
section
/-! THE CLASS's rows: what they leave as it was -/
/-- all cells but the walk's -/
def Fw (h h' : zi_Hp) : Prop := Fc h h' ∧ ∀ a j, a < 67 ∨ 197 ≤ a → zh_i h' a j = zh_i h a j ∧ zh_b h' a j = zh_b h a j
theorem Fw.refl (h : zi_Hp) : Fw h h := ⟨Fc.refl h, fun _ _ _ => ⟨rfl, rfl⟩⟩
theorem Fw.trans {h h1 h2 : zi_Hp} (p : Fw h h1) (q : Fw h1 h2) : Fw h h2 := ⟨p.1.trans q.1, fun a j ha => ⟨(q.2 a j ha).1.trans (p.2 a j ha).1, (q.2 a j ha).2.trans (p.2 a j ha).2⟩⟩
theorem Fw.wi {h : zi_Hp} {a k : Nat} {v : Int32} (ha : 67 ≤ a ∧ a < 197) : Fw h (zh_wi h a k v) := ⟨Fc.wi (by omega), fun b j hb => ⟨by rw [hp_i_wi, if_neg (by omega)], rfl⟩⟩
theorem Fw.wl {h : zi_Hp} {a k : Nat} {v : Int64} (ha : a < 211) : Fw h (zh_wl h a k v) := ⟨Fc.wl ha, fun _ _ _ => ⟨rfl, rfl⟩⟩
theorem Fw.zC {h : zi_Hp} {W : Nat} {x : Nat → Nat → Int32} {y : Nat → Nat → Bool} (V : Wa W) (hW : 67 ≤ W) : Fw h (zC h W x y) := ⟨Fc.zC V, fun a j ha => ⟨zC_io _ (by have := V.l2; omega), zC_bo _ (by have := V.l2; omega)⟩⟩
def CCw (h : zi_Hp) (o : Option zi_Rt) : Prop := ∃ v h', o = some (some (.int v), h') ∧ GO h' ∧ Fw h h'
def CVw (h : zi_Hp) (o : Option zi_Rt) : Prop := ∃ h', o = some (none, h') ∧ GO h' ∧ Fw h h'
theorem CCw.same {h : zi_Hp} {o : Option zi_Rt} (O : GO h) (e : ∃ v, o = some (some (.int v), h)) : CCw h o := by
  obtain ⟨v, e⟩ := e
  exact ⟨v, h, e, O, Fw.refl h⟩
section R34U
variable {h h1 : zi_Hp} {W : Nat}
theorem GO.cpw (O : GO h) {W U : Nat} (V : Wa W) (V2 : Wa U) (hne : U ≠ W) (hW : 67 ≤ W) {u : Value} : CVw h (zv 2 75 0 [.ref W, .ref U, u] [] h) := by
  obtain ⟨S, G⟩ := id O
  obtain ⟨x', y', e, q⟩ := k_cw S V V2 hne (x := wx h W) (y := wy h W) (u2' := u)
  rw [zC_wx] at e
  exact ⟨_, e, O.zC V ((G U V2).sw q), Fw.zC V hW⟩
theorem CVw.tr {o : Option zi_Rt} (F : Fw h h1) (c : CVw h1 o) : CVw h o := by
  obtain ⟨h', e, O', F'⟩ := c
  exact ⟨h', e, O', F.trans F'⟩
section
variable {x2 : Int32} {y3 : Int64}
theorem tw_129 (O : GO h) (V : Wa W) : CVw h (zv 3 73 129 [.ref 67, .ref W, .int x2, .long y3, .double 1] [] h) := ⟨h, by rw [b73_129], O, Fw.refl h⟩
theorem tw_118 (O : GO h) (V : Wa W) : CVw h (zv 3 73 118 [.ref 67, .ref W, .int x2, .long y3, .double 1] [.ref 67] h) := by
  obtain ⟨S, -⟩ := id O
  rw [b73_118 (by first | (rw [S.n]; decide) | (rw [S.k, kx_67]; done) | (rw [S.n]; have := V.lt; omega) | (rw [wk_0 S V]; done) | (rw [wr_0_0 S V, zq_rf]; done) | (rw [wr_0_0 S V, zq_rf, S.n]; have := V.lt; omega) | (rw [wr_0_0 S V, zq_rf, wk_1 S V])) (by first | (rw [S.n]; decide) | (rw [S.k, kx_67]; done) | (rw [S.n]; have := V.lt; omega) | (rw [wk_0 S V]; done) | (rw [wr_0_0 S V, zq_rf]; done) | (rw [wr_0_0 S V, zq_rf, S.n]; have := V.lt; omega) | (rw [wr_0_0 S V, zq_rf, wk_1 S V]))]
  split
  · rw [b73_124 (by first | (rw [S.n]; decide) | (rw [S.k, kx_67]; done) | (rw [S.n]; have := V.lt; omega) | (rw [wk_0 S V]; done) | (rw [wr_0_0 S V, zq_rf]; done) | (rw [wr_0_0 S V, zq_rf, S.n]; have := V.lt; omega) | (rw [wr_0_0 S V, zq_rf, wk_1 S V])) (by first | (rw [S.n]; decide) | (rw [S.k, kx_67]; done) | (rw [S.n]; have := V.lt; omega) | (rw [wk_0 S V]; done) | (rw [wr_0_0 S V, zq_rf]; done) | (rw [wr_0_0 S V, zq_rf, S.n]; have := V.lt; omega) | (rw [wr_0_0 S V, zq_rf, wk_1 S V]))]
    exact (tw_129 (O.wi wo_67) V).tr (Fw.wi (by decide))
  · exact tw_129 O V
theorem tw_94 (O : GO h) (V : Wa W) {v : Int32} : CVw h (zv 3 73 94 [.ref 67, .ref W, .int x2, .long y3, .double 1] [.int v] h) := by
  obtain ⟨S, -⟩ := id O
  rw [b73_94]
  split
  · exact tw_129 O V
  · rw [b73_97 (by first | (rw [S.n]; decide) | (rw [S.k, kx_67]; done) | (rw [S.n]; have := V.lt; omega) | (rw [wk_0 S V]; done) | (rw [wr_0_0 S V, zq_rf]; done) | (rw [wr_0_0 S V, zq_rf, S.n]; have := V.lt; omega) | (rw [wr_0_0 S V, zq_rf, wk_1 S V])) (by first | (rw [S.n]; decide) | (rw [S.k, kx_67]; done) | (rw [S.n]; have := V.lt; omega) | (rw [wk_0 S V]; done) | (rw [wr_0_0 S V, zq_rf]; done) | (rw [wr_0_0 S V, zq_rf, S.n]; have := V.lt; omega) | (rw [wr_0_0 S V, zq_rf, wk_1 S V]))]
    have O1 : GO (zh_wi h 67 6 (zh_i h 67 6 + 1)) := O.wi wo_67
    refine CVw.tr (h1 := zh_wi h 67 6 (zh_i h 67 6 + 1)) (Fw.wi (by decide)) ?_
    generalize zh_wi h 67 6 (zh_i h 67 6 + 1) = h1 at O1
    obtain ⟨S, -⟩ := id O1
    rw [b73_109 (by first | (rw [S.n]; decide) | (rw [S.k, kx_67]; done) | (rw [S.n]; have := V.lt; omega) | (rw [wk_0 S V]; done) | (rw [wr_0_0 S V, zq_rf]; done) | (rw [wr_0_0 S V, zq_rf, S.n]; have := V.lt; omega) | (rw [wr_0_0 S V, zq_rf, wk_1 S V])) (by first | (rw [S.n]; decide) | (rw [S.k, kx_67]; done) | (rw [S.n]; have := V.lt; omega) | (rw [wk_0 S V]; done) | (rw [wr_0_0 S V, zq_rf]; done) | (rw [wr_0_0 S V, zq_rf, S.n]; have := V.lt; omega) | (rw [wr_0_0 S V, zq_rf, wk_1 S V])) (by first | (rw [S.n]; decide) | (rw [S.k, kx_67]; done) | (rw [S.n]; have := V.lt; omega) | (rw [wk_0 S V]; done) | (rw [wr_0_0 S V, zq_rf]; done) | (rw [wr_0_0 S V, zq_rf, S.n]; have := V.lt; omega) | (rw [wr_0_0 S V, zq_rf, wk_1 S V])) (by first | (rw [S.n]; decide) | (rw [S.k, kx_67]; done) | (rw [S.n]; have := V.lt; omega) | (rw [wk_0 S V]; done) | (rw [wr_0_0 S V, zq_rf]; done) | (rw [wr_0_0 S V, zq_rf, S.n]; have := V.lt; omega) | (rw [wr_0_0 S V, zq_rf, wk_1 S V]))]
    exact (tw_118 O1.wl V).tr (Fw.wl (by decide))
theorem tw_82 (O : GO h) (V : Wa W) : CVw h (zv 3 73 82 [.ref 67, .ref W, .int x2, .long y3, .double 1] [] h) := by
  obtain ⟨S, -⟩ := id O
  obtain ⟨v, e⟩ := w_103 O V (zh_i h 67 11) (zh_i h 67 12)
  rw [b73_82 (by first | (rw [S.n]; decide) | (rw [S.k, kx_67]; done) | (rw [S.n]; have := V.lt; omega) | (rw [wk_0 S V]; done) | (rw [wr_0_0 S V, zq_rf]; done) | (rw [wr_0_0 S V, zq_rf, S.n]; have := V.lt; omega) | (rw [wr_0_0 S V, zq_rf, wk_1 S V])) (by first | (rw [S.n]; decide) | (rw [S.k, kx_67]; done) | (rw [S.n]; have := V.lt; omega) | (rw [wk_0 S V]; done) | (rw [wr_0_0 S V, zq_rf]; done) | (rw [wr_0_0 S V, zq_rf, S.n]; have := V.lt; omega) | (rw [wr_0_0 S V, zq_rf, wk_1 S V])) (by first | (rw [S.n]; decide) | (rw [S.k, kx_67]; done) | (rw [S.n]; have := V.lt; omega) | (rw [wk_0 S V]; done) | (rw [wr_0_0 S V, zq_rf]; done) | (rw [wr_0_0 S V, zq_rf, S.n]; have := V.lt; omega) | (rw [wr_0_0 S V, zq_rf, wk_1 S V])) (by first | (rw [S.n]; decide) | (rw [S.k, kx_67]; done) | (rw [S.n]; have := V.lt; omega) | (rw [wk_0 S V]; done) | (rw [wr_0_0 S V, zq_rf]; done) | (rw [wr_0_0 S V, zq_rf, S.n]; have := V.lt; omega) | (rw [wr_0_0 S V, zq_rf, wk_1 S V])), e]
  simp only [Option.bind_some, Option.toList_some, Option.toList_none, List.cons_append, List.nil_append]
  exact tw_94 O V
theorem tw_69 (O : GO h) (V : Wa W) {v : Int32} : CVw h (zv 3 73 69 [.ref 67, .ref W, .int x2, .long y3, .double 1] [.int v] h) := by
  obtain ⟨S, -⟩ := id O
  rw [b73_69]
  split
  · exact tw_82 O V
  · rw [b73_72 (by first | (rw [S.n]; decide) | (rw [S.k, kx_67]; done) | (rw [S.n]; have := V.lt; omega) | (rw [wk_0 S V]; done) | (rw [wr_0_0 S V, zq_rf]; done) | (rw [wr_0_0 S V, zq_rf, S.n]; have := V.lt; omega) | (rw [wr_0_0 S V, zq_rf, wk_1 S V])) (by first | (rw [S.n]; decide) | (rw [S.k, kx_67]; done) | (rw [S.n]; have := V.lt; omega) | (rw [wk_0 S V]; done) | (rw [wr_0_0 S V, zq_rf]; done) | (rw [wr_0_0 S V, zq_rf, S.n]; have := V.lt; omega) | (rw [wr_0_0 S V, zq_rf, wk_1 S V]))]
    exact (tw_82 (O.wi wo_67) V).tr (Fw.wi (by decide))
theorem tw_47 (O : GO h) (V : Wa W) : CVw h (zv 3 73 47 [.ref 67, .ref W, .int x2, .long y3, .double 1] [.ref 67, .ref 67] h) := by
  obtain ⟨S, -⟩ := id O
  obtain ⟨v, e⟩ := w_100 O V
  rw [b73_47 (by first | (rw [S.n]; decide) | (rw [S.k, kx_67]; done) | (rw [S.n]; have := V.lt; omega) | (rw [wk_0 S V]; done) | (rw [wr_0_0 S V, zq_rf]; done) | (rw [wr_0_0 S V, zq_rf, S.n]; have := V.lt; omega) | (rw [wr_0_0 S V, zq_rf, wk_1 S V])) (by first | (rw [S.n]; decide) | (rw [S.k, kx_67]; done) | (rw [S.n]; have := V.lt; omega) | (rw [wk_0 S V]; done) | (rw [wr_0_0 S V, zq_rf]; done) | (rw [wr_0_0 S V, zq_rf, S.n]; have := V.lt; omega) | (rw [wr_0_0 S V, zq_rf, wk_1 S V])) (by first | (rw [S.n]; decide) | (rw [S.k, kx_67]; done) | (rw [S.n]; have := V.lt; omega) | (rw [wk_0 S V]; done) | (rw [wr_0_0 S V, zq_rf]; done) | (rw [wr_0_0 S V, zq_rf, S.n]; have := V.lt; omega) | (rw [wr_0_0 S V, zq_rf, wk_1 S V])) (by first | (rw [S.n]; decide) | (rw [S.k, kx_67]; done) | (rw [S.n]; have := V.lt; omega) | (rw [wk_0 S V]; done) | (rw [wr_0_0 S V, zq_rf]; done) | (rw [wr_0_0 S V, zq_rf, S.n]; have := V.lt; omega) | (rw [wr_0_0 S V, zq_rf, wk_1 S V])), e]
  simp only [Option.bind_some, Option.toList_some, Option.toList_none, List.cons_append, List.nil_append]
  rw [b73_54 (by first | (rw [S.n]; decide) | (rw [S.k, kx_67]; done) | (rw [S.n]; have := V.lt; omega) | (rw [wk_0 S V]; done) | (rw [wr_0_0 S V, zq_rf]; done) | (rw [wr_0_0 S V, zq_rf, S.n]; have := V.lt; omega) | (rw [wr_0_0 S V, zq_rf, wk_1 S V])) (by first | (rw [S.n]; decide) | (rw [S.k, kx_67]; done) | (rw [S.n]; have := V.lt; omega) | (rw [wk_0 S V]; done) | (rw [wr_0_0 S V, zq_rf]; done) | (rw [wr_0_0 S V, zq_rf, S.n]; have := V.lt; omega) | (rw [wr_0_0 S V, zq_rf, wk_1 S V])) (by first | (rw [S.n]; decide) | (rw [S.k, kx_67]; done) | (rw [S.n]; have := V.lt; omega) | (rw [wk_0 S V]; done) | (rw [wr_0_0 S V, zq_rf]; done) | (rw [wr_0_0 S V, zq_rf, S.n]; have := V.lt; omega) | (rw [wr_0_0 S V, zq_rf, wk_1 S V])) (by first | (rw [S.n]; decide) | (rw [S.k, kx_67]; done) | (rw [S.n]; have := V.lt; omega) | (rw [wk_0 S V]; done) | (rw [wr_0_0 S V, zq_rf]; done) | (rw [wr_0_0 S V, zq_rf, S.n]; have := V.lt; omega) | (rw [wr_0_0 S V, zq_rf, wk_1 S V])) (by first | (rw [S.n]; decide) | (rw [S.k, kx_67]; done) | (rw [S.n]; have := V.lt; omega) | (rw [wk_0 S V]; done) | (rw [wr_0_0 S V, zq_rf]; done) | (rw [wr_0_0 S V, zq_rf, S.n]; have := V.lt; omega) | (rw [wr_0_0 S V, zq_rf, wk_1 S V])) (by first | (rw [S.n]; decide) | (rw [S.k, kx_67]; done) | (rw [S.n]; have := V.lt; omega) | (rw [wk_0 S V]; done) | (rw [wr_0_0 S V, zq_rf]; done) | (rw [wr_0_0 S V, zq_rf, S.n]; have := V.lt; omega) | (rw [wr_0_0 S V, zq_rf, wk_1 S V]))]
  generalize (if zh_i h 67 4 < v - zh_i h 67 10 then v - zh_i h 67 10 else zh_i h 67 4) = w
  have O1 : GO (zh_wi h 67 4 w) := O.wi wo_67
  obtain ⟨v2, e2⟩ := w_102 O1 V
  rw [e2]
  simp only [Option.bind_some, Option.toList_some, Option.toList_none, List.cons_append, List.nil_append]
  exact (tw_69 O1 V).tr (Fw.wi (by decide))
theorem tw_27 (O : GO h) (V : Wa W) : CVw h (zv 3 73 27 [.ref 67, .ref W, .int x2, .long y3, .double 1] [] h) := by
  obtain ⟨S, -⟩ := id O
  rw [b73_27 (by first | (rw [S.n]; decide) | (rw [S.k, kx_67]; done) | (rw [S.n]; have := V.lt; omega) | (rw [wk_0 S V]; done) | (rw [wr_0_0 S V, zq_rf]; done) | (rw [wr_0_0 S V, zq_rf, S.n]; have := V.lt; omega) | (rw [wr_0_0 S V, zq_rf, wk_1 S V])) (by first | (rw [S.n]; decide) | (rw [S.k, kx_67]; done) | (rw [S.n]; have := V.lt; omega) | (rw [wk_0 S V]; done) | (rw [wr_0_0 S V, zq_rf]; done) | (rw [wr_0_0 S V, zq_rf, S.n]; have := V.lt; omega) | (rw [wr_0_0 S V, zq_rf, wk_1 S V])) (by first | (rw [S.n]; decide) | (rw [S.k, kx_67]; done) | (rw [S.n]; have := V.lt; omega) | (rw [wk_0 S V]; done) | (rw [wr_0_0 S V, zq_rf]; done) | (rw [wr_0_0 S V, zq_rf, S.n]; have := V.lt; omega) | (rw [wr_0_0 S V, zq_rf, wk_1 S V])) (by first | (rw [S.n]; decide) | (rw [S.k, kx_67]; done) | (rw [S.n]; have := V.lt; omega) | (rw [wk_0 S V]; done) | (rw [wr_0_0 S V, zq_rf]; done) | (rw [wr_0_0 S V, zq_rf, S.n]; have := V.lt; omega) | (rw [wr_0_0 S V, zq_rf, wk_1 S V])) (by first | (rw [S.n]; decide) | (rw [S.k, kx_67]; done) | (rw [S.n]; have := V.lt; omega) | (rw [wk_0 S V]; done) | (rw [wr_0_0 S V, zq_rf]; done) | (rw [wr_0_0 S V, zq_rf, S.n]; have := V.lt; omega) | (rw [wr_0_0 S V, zq_rf, wk_1 S V])) (by first | (rw [S.n]; decide) | (rw [S.k, kx_67]; done) | (rw [S.n]; have := V.lt; omega) | (rw [wk_0 S V]; done) | (rw [wr_0_0 S V, zq_rf]; done) | (rw [wr_0_0 S V, zq_rf, S.n]; have := V.lt; omega) | (rw [wr_0_0 S V, zq_rf, wk_1 S V])) (by first | (rw [S.n]; decide) | (rw [S.k, kx_67]; done) | (rw [S.n]; have := V.lt; omega) | (rw [wk_0 S V]; done) | (rw [wr_0_0 S V, zq_rf]; done) | (rw [wr_0_0 S V, zq_rf, S.n]; have := V.lt; omega) | (rw [wr_0_0 S V, zq_rf, wk_1 S V]))]
  exact (tw_47 (O.wi wo_67) V).tr (Fw.wi (by decide))
theorem tw_0 (O : GO h) (V : Wa W) : CVw h (zv 3 73 0 [.ref 67, .ref W, .int x2, .long y3, .double 1] [] h) := by
  obtain ⟨S, -⟩ := id O
  rw [b73_0 (by first | (rw [S.n]; decide) | (rw [S.k, kx_67]; done) | (rw [S.n]; have := V.lt; omega) | (rw [wk_0 S V]; done) | (rw [wr_0_0 S V, zq_rf]; done) | (rw [wr_0_0 S V, zq_rf, S.n]; have := V.lt; omega) | (rw [wr_0_0 S V, zq_rf, wk_1 S V])) (by first | (rw [S.n]; decide) | (rw [S.k, kx_67]; done) | (rw [S.n]; have := V.lt; omega) | (rw [wk_0 S V]; done) | (rw [wr_0_0 S V, zq_rf]; done) | (rw [wr_0_0 S V, zq_rf, S.n]; have := V.lt; omega) | (rw [wr_0_0 S V, zq_rf, wk_1 S V])) (by first | (rw [S.n]; decide) | (rw [S.k, kx_67]; done) | (rw [S.n]; have := V.lt; omega) | (rw [wk_0 S V]; done) | (rw [wr_0_0 S V, zq_rf]; done) | (rw [wr_0_0 S V, zq_rf, S.n]; have := V.lt; omega) | (rw [wr_0_0 S V, zq_rf, wk_1 S V])) (by first | (rw [S.n]; decide) | (rw [S.k, kx_67]; done) | (rw [S.n]; have := V.lt; omega) | (rw [wk_0 S V]; done) | (rw [wr_0_0 S V, zq_rf]; done) | (rw [wr_0_0 S V, zq_rf, S.n]; have := V.lt; omega) | (rw [wr_0_0 S V, zq_rf, wk_1 S V]))]
  have O1 : GO (zh_wi h 67 1 (zh_i h 67 1 + 1)) := O.wi wo_67
  refine CVw.tr (h1 := zh_wi h 67 1 (zh_i h 67 1 + 1)) (Fw.wi (by decide)) ?_
  generalize zh_wi h 67 1 (zh_i h 67 1 + 1) = h1 at O1
  obtain ⟨v, e⟩ := w_101 O1 V
  rw [e]
  simp only [Option.bind_some, Option.toList_some, Option.toList_none, List.cons_append, List.nil_append]
  obtain ⟨S, -⟩ := id O1
  rw [b73_14]
  split
  · exact tw_27 O1 V
  · rw [b73_17 (by first | (rw [S.n]; decide) | (rw [S.k, kx_67]; done) | (rw [S.n]; have := V.lt; omega) | (rw [wk_0 S V]; done) | (rw [wr_0_0 S V, zq_rf]; done) | (rw [wr_0_0 S V, zq_rf, S.n]; have := V.lt; omega) | (rw [wr_0_0 S V, zq_rf, wk_1 S V])) (by first | (rw [S.n]; decide) | (rw [S.k, kx_67]; done) | (rw [S.n]; have := V.lt; omega) | (rw [wk_0 S V]; done) | (rw [wr_0_0 S V, zq_rf]; done) | (rw [wr_0_0 S V, zq_rf, S.n]; have := V.lt; omega) | (rw [wr_0_0 S V, zq_rf, wk_1 S V]))]
    exact (tw_27 (O1.wi wo_67) V).tr (Fw.wi (by decide))
end
/-- the stack's world, and the row's end -/
theorem ex_tw (O : GO h) {k d : Nat} (hd : d < 8) (hk : 3 < k) {x2 x6 x7 : Int32} {y3 : Int64} {u8 u9 : Value} : CVw h (zv k 72 56 [.ref 67, .int (nI d), .int x2, .long y3, .double 1, .ref (69 + 16 * d), .int x6, .int x7, u8, u9] [] h) := by
  obtain ⟨S, -⟩ := id O
  have V := st_V hd
  obtain ⟨h', e, O', F'⟩ := tw_0 O V (x2 := x2) (y3 := y3)
  rw [b72_56 hk (by first | (rw [S.n]; decide) | (rw [S.k, kx_67]; done) | (rw [S.n]; have := V.lt; omega) | (rw [wk_0 S V]; done) | (rw [wr_0_0 S V, zq_rf]; done) | (rw [wr_0_0 S V, zq_rf, S.n]; have := V.lt; omega) | (rw [wr_0_0 S V, zq_rf, wk_1 S V])) (by first | (rw [S.n]; decide) | (rw [S.k, kx_67]; done) | (rw [S.n]; have := V.lt; omega) | (rw [wk_0 S V]; done) | (rw [wr_0_0 S V, zq_rf]; done) | (rw [wr_0_0 S V, zq_rf, S.n]; have := V.lt; omega) | (rw [wr_0_0 S V, zq_rf, wk_1 S V])), e]
  simp only [Option.bind_some, Option.toList_some, Option.toList_none, List.cons_append, List.nil_append]
  exact ⟨h', by rw [b72_64], O', F'⟩
theorem ex_zw (O : GO h) {k d : Nat} (hd : d < 8) (hk : 3 < k) {x2 : Int32} {y3 : Int64} {u6 u7 u8 u9 : Value} : CVw h (zv k 72 41 [.ref 67, .int (nI d), .int x2, .long y3, .double 1, .ref (69 + 16 * d), u6, u7, u8, u9] [] h) := by
  rw [b72_41, b72_42 (by omega), bc_0]
  simp only [Option.bind_some, Option.toList_some, Option.toList_none, List.cons_append, List.nil_append]
  rw [b72_49, if_pos rfl]
  exact ex_tw O hd hk
theorem ex_gw : ∀ e d, d + e = 7 → ∀ {h : zi_Hp}, GO h → ∀ {x2 : Int32} {y3 : Int64} {u5 u6 u7 u8 u9 : Value}, CVw h (zv (6 + (8 - d)) 72 0 [.ref 67, .int (nI d), .int x2, .long y3, .double 1, u5, u6, u7, u8, u9] [] h)
  | 0, d, hd, h, O, x2, y3, u5, u6, u7, u8, u9 => by
    have e : d = 7 := by omega
    subst e
    rw [ex_a O.1 (by decide)]
    split
    · rw [b72_27, if_neg (by decide)]
      exact ex_zw O (by decide) (by decide)
    · exact ex_zw O (by decide) (by decide)
  | e + 1, d, hd, h, O, x2, y3, u5, u6, u7, u8, u9 => by
    obtain ⟨S, G⟩ := id O
    have V := st_V (d := d) (by omega)
    have V2 := st_V (d := d + 1) (by omega)
    have r0 : zh_r h 67 0 = .ref 68 := by rw [S.r, rx_67_0]
    have k8 : zh_k h 68 = (103, 8) := by rw [S.k, kx_68]
    have nc : (nI (d + 1)).toNatClampNeg = d + 1 := nI_clamp (by omega)
    have lp : ∀ q c, c + q = 3 → ∀ {h : zi_Hp}, GO h → ∀ {x6 x7 : Int32}, ¬ x7 = 0 → CVw h (zv (6 + (8 - d)) 72 78 [.ref 67, .int (nI d), .int x2, .long y3, .double 1, .ref (69 + 16 * d), .int x6, .int x7, .ref (69 + 16 * (d + 1)), .int (nI c)] [] h) := by
      intro q
      induction q with
      | zero =>
        intro c hc h O x6 x7 h7
        have e : c = 3 := by omega
        subst e
        exact ⟨h, by rw [b72_78, if_neg (by decide), b72_134], O, Fw.refl h⟩
      | succ q ih =>
        intro c hc h O x6 x7 h7
        have nx : ∀ {h : zi_Hp}, GO h → CVw h (zv (6 + (8 - d)) 72 128 [.ref 67, .int (nI d), .int x2, .long y3, .double 1, .ref (69 + 16 * d), .int x6, .int x7, .ref (69 + 16 * (d + 1)), .int (nI c)] [] h) := fun {h} O => by
          rw [b72_128, nI_s]; exact ih (c + 1) (by omega) O h7
        rw [b72_78, if_pos (show nI c < 3 from nI_lt (b := 3) (by omega) (by decide)), b72_84]
        split
        · exact nx O
        · obtain ⟨h1, e1, O1, F1⟩ := O.cpw V2 V (by omega) (by omega) (u := .double 0)
          obtain ⟨S1, G1⟩ := id O1
          obtain ⟨cd, x', y', e2, G2⟩ := (G1 _ V2).step S1 V2 (c := c) (by omega) (v2 := .double 0) (v3 := .double 0) (v4 := .double 0)
          rw [zC_wx] at e2
          have O2 : GO (zC h1 (69 + 16 * (d + 1)) x' y') := O1.zC V2 G2
          obtain ⟨h3, e3, O3, F3⟩ := ex_gw e (d + 1) (by omega) O2 (x2 := x2 * 10 + nI c) (y3 := y3 / x7.toInt64) (u5 := .double 0) (u6 := .double 0) (u7 := .double 0) (u8 := .double 0) (u9 := .double 0)
          have l2 := V2.lt
          rw [b72_94 (by omega) (by rw [O.1.n]; omega) (by rw [wk_0 O.1 V2]), e1]
          simp only [Option.bind_some, Option.toList_some, Option.toList_none, List.cons_append, List.nil_append]
          rw [b72_101 (by omega) (by rw [S1.n]; omega) (by rw [wk_0 S1 V2]), e2]
          simp only [Option.bind_some, Option.toList_some, Option.toList_none, List.cons_append, List.nil_append]
          rw [b72_108 (i64_nz h7) (by rw [nI_s, nc]; omega), nI_s, nc, e3]
          simp only [Option.bind_some, Option.toList_some, Option.toList_none, List.cons_append, List.nil_append]
          exact (nx O3).tr ((F1.trans (Fw.zC V2 (by omega))).trans F3)
    rw [ex_a S (by omega)]
    split
    · obtain ⟨s, N, R, M, B, L, m, H, r, K, C, f, I, T⟩ := G _ V
      have em := k_mo S V T I (u1 := .double 0) (u2 := .double 0)
      rw [zC_wx] at em
      obtain ⟨w, ew⟩ := bc_e (h := h) (mbF s)
      rw [b72_27, if_pos (show nI d < 7 from nI_lt (b := 7) (by omega) (by decide)), b72_33 (by omega) (by first | (rw [S.n]; decide) | (rw [S.k, kx_67]; done) | (rw [S.n]; have := V.lt; omega) | (rw [wk_0 S V]; done) | (rw [wr_0_0 S V, zq_rf]; done) | (rw [wr_0_0 S V, zq_rf, S.n]; have := V.lt; omega) | (rw [wr_0_0 S V, zq_rf, wk_1 S V])) (by first | (rw [S.n]; decide) | (rw [S.k, kx_67]; done) | (rw [S.n]; have := V.lt; omega) | (rw [wk_0 S V]; done) | (rw [wr_0_0 S V, zq_rf]; done) | (rw [wr_0_0 S V, zq_rf, S.n]; have := V.lt; omega) | (rw [wr_0_0 S V, zq_rf, wk_1 S V])), em]
      simp only [Option.bind_some, Option.toList_some, Option.toList_none, List.cons_append, List.nil_append]
      rw [b72_38, b72_42 (by omega), ew]
      simp only [Option.bind_some, Option.toList_some, Option.toList_none, List.cons_append, List.nil_append]
      rw [b72_49]
      by_cases h7 : w = 0
      · rw [if_pos h7]; exact ex_tw O (by omega) (by omega)
      · have r1 : zh_r h 68 (d + 1) = .ref (69 + 16 * (d + 1)) := st_r S (by omega)
        rw [if_neg h7, b72_65 (by first | (rw [S.n]; decide) | (rw [S.k, kx_67]; done) | (rw [S.n]; have := V.lt; omega) | (rw [wk_0 S V]; done) | (rw [wr_0_0 S V, zq_rf]; done) | (rw [wr_0_0 S V, zq_rf, S.n]; have := V.lt; omega) | (rw [wr_0_0 S V, zq_rf, wk_1 S V])) (by first | (rw [S.n]; decide) | (rw [S.k, kx_67]; done) | (rw [S.n]; have := V.lt; omega) | (rw [wk_0 S V]; done) | (rw [wr_0_0 S V, zq_rf]; done) | (rw [wr_0_0 S V, zq_rf, S.n]; have := V.lt; omega) | (rw [wr_0_0 S V, zq_rf, wk_1 S V])) (by rw [r0, zq_rf]) (by rw [r0, zq_rf, S.n]; decide) (by rw [r0, zq_rf, k8, nI_s]; exact zj_n (by omega) (by decide)) (by rw [r0, zq_rf, k8]; exact Or.inl rfl) (by rw [r0, zq_rf, nI_s, nc, r1, zq_rf]), r0, zq_rf, nI_s, nc, r1, zq_rf]
        exact lp 3 0 rfl O h7
    · exact ex_zw O (by omega) (by omega)
theorem w_svw (O : GO h) (x2 x3 x4 : Int32) : CVw h (zv 16 71 0 [.ref 67, .ref 1, .int x2, .int x3, .int x4] [] h) := by
  obtain ⟨S, -⟩ := id O
  have V := V1
  rw [b71_0 (by first | (rw [S.n]; decide) | (rw [S.k, kx_67]; done) | (rw [S.n]; have := V.lt; omega) | (rw [wk_0 S V]; done) | (rw [wr_0_0 S V, zq_rf]; done) | (rw [wr_0_0 S V, zq_rf, S.n]; have := V.lt; omega) | (rw [wr_0_0 S V, zq_rf, wk_1 S V])) (by first | (rw [S.n]; decide) | (rw [S.k, kx_67]; done) | (rw [S.n]; have := V.lt; omega) | (rw [wk_0 S V]; done) | (rw [wr_0_0 S V, zq_rf]; done) | (rw [wr_0_0 S V, zq_rf, S.n]; have := V.lt; omega) | (rw [wr_0_0 S V, zq_rf, wk_1 S V])) (by first | (rw [S.n]; decide) | (rw [S.k, kx_67]; done) | (rw [S.n]; have := V.lt; omega) | (rw [wk_0 S V]; done) | (rw [wr_0_0 S V, zq_rf]; done) | (rw [wr_0_0 S V, zq_rf, S.n]; have := V.lt; omega) | (rw [wr_0_0 S V, zq_rf, wk_1 S V])) (by first | (rw [S.n]; decide) | (rw [S.k, kx_67]; done) | (rw [S.n]; have := V.lt; omega) | (rw [wk_0 S V]; done) | (rw [wr_0_0 S V, zq_rf]; done) | (rw [wr_0_0 S V, zq_rf, S.n]; have := V.lt; omega) | (rw [wr_0_0 S V, zq_rf, wk_1 S V]))]
  obtain ⟨h0, eh0⟩ : ∃ h0, h0 = zh_wi (zh_wl (zh_wi (zh_wi (zh_wi (zh_wi (zh_wi (zh_wi (zh_wi h 67 1 0) 67 2 0) 67 3 0) 67 4 0) 67 5 0) 67 6 0) 67 7 (-4)) 67 8 0) 67 9 (if 7 < x2 then 7 else x2) := ⟨_, rfl⟩
  have O0 : GO h0 := by
    rw [eh0]; exact (((((((((O.wi wo_67).wi wo_67).wi wo_67).wi wo_67).wi wo_67).wi wo_67).wi wo_67).wl).wi wo_67)
  have F0 : Fw h h0 := by
    rw [eh0]
    exact ((((((((Fw.wi (by decide)).trans (Fw.wi (by decide))).trans (Fw.wi (by decide))).trans (Fw.wi (by decide))).trans (Fw.wi (by decide))).trans (Fw.wi (by decide))).trans (Fw.wi (by decide))).trans (Fw.wl (by decide))).trans (Fw.wi (by decide))
  rw [← eh0]
  obtain ⟨v, e⟩ := w_100 O0 V1
  rw [e]
  simp only [Option.bind_some, Option.toList_some, Option.toList_none, List.cons_append, List.nil_append]
  obtain ⟨S0, -⟩ := id O0
  have r0 : zh_r h0 67 0 = .ref 68 := by rw [S0.r, rx_67_0]
  have k8 : zh_k h0 68 = (103, 8) := by rw [S0.k, kx_68]
  have r1 : zh_r h0 68 0 = .ref 69 := by rw [S0.r, rx_68_0]
  have k9 : zh_k h0 69 = (6, 2) := by rw [S0.k, kx_69]
  have n0 : (67 : Nat) < zh_n h0 := by rw [S0.n]; decide
  have k7 : (zh_k h0 67).1 = 5 := by rw [S0.k, kx_67]
  rw [b71_56 n0 k7 n0 k7 (by rw [r0, zq_rf]) (by rw [r0, zq_rf, S0.n]; decide) (by rw [r0, zq_rf, k8]; decide) (by rw [r0, zq_rf, k8]; exact Or.inl rfl) (by rw [r0, zq_rf, r1, zq_rf]) (by rw [r0, zq_rf, r1, zq_rf, S0.n]; decide) (by rw [r0, zq_rf, r1, zq_rf, k9]), r0, zq_rf, r1, zq_rf]
  have O1 : GO (zh_wi (zh_wi (zh_wi h0 67 10 v) 67 11 x3) 67 12 x4) := ((O0.wi wo_67).wi wo_67).wi wo_67
  have F1 : Fw h0 (zh_wi (zh_wi (zh_wi h0 67 10 v) 67 11 x3) 67 12 x4) := ((Fw.wi (by decide)).trans (Fw.wi (by decide))).trans (Fw.wi (by decide))
  obtain ⟨h2, e2, O2, F2⟩ := O1.cpw (W := 69) (U := 1) (st_V (d := 0) (by decide)) V1 (by decide) (by decide) (u := .double 0)
  obtain ⟨h3, e3, O3, F3⟩ := ex_gw 7 0 rfl O2 (x2 := 1) (y3 := 279936) (u5 := .double 0) (u6 := .double 0) (u7 := .double 0) (u8 := .double 0) (u9 := .double 0)
  have e3' : zv 14 72 0 [.ref 67, .int 0, .int 1, .long 279936, .double 1, .double 0, .double 0, .double 0, .double 0, .double 0] [] h2 = some (none, h3) := e3
  rw [e2]
  simp only [Option.bind_some, Option.toList_some, Option.toList_none, List.cons_append, List.nil_append]
  rw [b71_80, e3']
  simp only [Option.bind_some, Option.toList_some, Option.toList_none, List.cons_append, List.nil_append]
  exact ⟨h3, by rw [b71_89], O3, ((F0.trans F1).trans F2).trans F3⟩
theorem c_roww (O : GO h) (x w : Int32) : CCw h (zv 17 119 0 [.ref 0, .int x, .int w] [] h) := by
  obtain ⟨S, -⟩ := id O
  by_cases hv : ¬ x < 0 ∧ ¬ 7 < x
  · by_cases h0 : w < 0
    · refine CCw.same O ?_
      simp +decide only [b119_0, b119_4, b119_7, b119_16, S.n, S.k, S.r, hp_n_wi, hp_k_wi, hp_r_wi, hp_n_wl, hp_k_wl, hp_r_wl, hp_n_wb, hp_k_wb, hp_r_wb, zq_rf, kx_0, kx_1, kx_2, kx_3, kx_4, kx_5, kx_6, kx_7, kx_8, kx_9, kx_10, kx_11, kx_12, kx_13, kx_14, kx_15, kx_16, kx_17, kx_33, kx_34, kx_50, kx_66, kx_67, kx_68, kx_69, kx_197, kx_198, kx_199, kx_200, kx_201, kx_202, kx_203, kx_204, kx_205, kx_206, kx_207, kx_208, kx_209, kx_210, rx_0_0, rx_0_1, rx_0_2, rx_0_3, rx_0_4, rx_0_5, rx_0_6, rx_0_7, rx_1_0, rx_1_1, rx_2_3, rx_2_4, rx_2_5, rx_2_6, rx_2_7, rx_2_8, rx_2_9, rx_10_0, rx_10_1, rx_10_2, rx_33_0, rx_33_1, rx_67_0, rx_68_0, rx_197_0, rx_199_5, rx_199_6, rx_199_7, rx_203_0, rx_203_1, rx_203_2, rx_206_0, rx_206_1, rx_206_2, rx_206_3, Option.bind_some, Option.toList_some, Option.toList_none, List.cons_append, List.nil_append, ↓reduceIte, p_135, decide_eq_true hv, zi_bI_t, if_pos h0]; exact ⟨_, rfl⟩
    · by_cases h4 : 4 < w
      · refine CCw.same O ?_
        simp +decide only [b119_0, b119_4, b119_7, b119_11, b119_16, S.n, S.k, S.r, hp_n_wi, hp_k_wi, hp_r_wi, hp_n_wl, hp_k_wl, hp_r_wl, hp_n_wb, hp_k_wb, hp_r_wb, zq_rf, kx_0, kx_1, kx_2, kx_3, kx_4, kx_5, kx_6, kx_7, kx_8, kx_9, kx_10, kx_11, kx_12, kx_13, kx_14, kx_15, kx_16, kx_17, kx_33, kx_34, kx_50, kx_66, kx_67, kx_68, kx_69, kx_197, kx_198, kx_199, kx_200, kx_201, kx_202, kx_203, kx_204, kx_205, kx_206, kx_207, kx_208, kx_209, kx_210, rx_0_0, rx_0_1, rx_0_2, rx_0_3, rx_0_4, rx_0_5, rx_0_6, rx_0_7, rx_1_0, rx_1_1, rx_2_3, rx_2_4, rx_2_5, rx_2_6, rx_2_7, rx_2_8, rx_2_9, rx_10_0, rx_10_1, rx_10_2, rx_33_0, rx_33_1, rx_67_0, rx_68_0, rx_197_0, rx_199_5, rx_199_6, rx_199_7, rx_203_0, rx_203_1, rx_203_2, rx_206_0, rx_206_1, rx_206_2, rx_206_3, Option.bind_some, Option.toList_some, Option.toList_none, List.cons_append, List.nil_append, ↓reduceIte, p_135, decide_eq_true hv, zi_bI_t, if_neg h0, if_pos h4]; exact ⟨_, rfl⟩
      · obtain ⟨h', e, O', F'⟩ := w_svw O x (-4) (-4)
        have go : zv 17 119 0 [.ref 0, .int x, .int w] [] h = zv 17 119 34 [.ref 0, .int x, .int w] [] h' := by
          simp +decide only [b119_0, b119_4, b119_7, b119_11, b119_18, S.n, S.k, S.r, hp_n_wi, hp_k_wi, hp_r_wi, hp_n_wl, hp_k_wl, hp_r_wl, hp_n_wb, hp_k_wb, hp_r_wb, zq_rf, kx_0, kx_1, kx_2, kx_3, kx_4, kx_5, kx_6, kx_7, kx_8, kx_9, kx_10, kx_11, kx_12, kx_13, kx_14, kx_15, kx_16, kx_17, kx_33, kx_34, kx_50, kx_66, kx_67, kx_68, kx_69, kx_197, kx_198, kx_199, kx_200, kx_201, kx_202, kx_203, kx_204, kx_205, kx_206, kx_207, kx_208, kx_209, kx_210, rx_0_0, rx_0_1, rx_0_2, rx_0_3, rx_0_4, rx_0_5, rx_0_6, rx_0_7, rx_1_0, rx_1_1, rx_2_3, rx_2_4, rx_2_5, rx_2_6, rx_2_7, rx_2_8, rx_2_9, rx_10_0, rx_10_1, rx_10_2, rx_33_0, rx_33_1, rx_67_0, rx_68_0, rx_197_0, rx_199_5, rx_199_6, rx_199_7, rx_203_0, rx_203_1, rx_203_2, rx_206_0, rx_206_1, rx_206_2, rx_206_3, Option.bind_some, Option.toList_some, Option.toList_none, List.cons_append, List.nil_append, ↓reduceIte, p_135, decide_eq_true hv, zi_bI_t, if_neg h0, if_neg h4, e]
        rw [go]
        obtain ⟨n, hn, rfl⟩ := nI_ex' (b := 4) (by decide) h0 h4
        have fin : ∃ v, zv 17 119 34 [.ref 0, .int x, .int (nI n)] [] h' = some (some (.int v), h') := by
          obtain ⟨S, -⟩ := id O'
          have : n = 0 ∨ n = 1 ∨ n = 2 ∨ n = 3 ∨ n = 4 := by omega
          rcases this with rfl | rfl | rfl | rfl | rfl
          · rw [b119_34_c0 (x2 := nI 0) rfl]; simp +decide only [b119_64, S.n, S.k, S.r, hp_n_wi, hp_k_wi, hp_r_wi, hp_n_wl, hp_k_wl, hp_r_wl, hp_n_wb, hp_k_wb, hp_r_wb, zq_rf, kx_0, kx_1, kx_2, kx_3, kx_4, kx_5, kx_6, kx_7, kx_8, kx_9, kx_10, kx_11, kx_12, kx_13, kx_14, kx_15, kx_16, kx_17, kx_33, kx_34, kx_50, kx_66, kx_67, kx_68, kx_69, kx_197, kx_198, kx_199, kx_200, kx_201, kx_202, kx_203, kx_204, kx_205, kx_206, kx_207, kx_208, kx_209, kx_210, rx_0_0, rx_0_1, rx_0_2, rx_0_3, rx_0_4, rx_0_5, rx_0_6, rx_0_7, rx_1_0, rx_1_1, rx_2_3, rx_2_4, rx_2_5, rx_2_6, rx_2_7, rx_2_8, rx_2_9, rx_10_0, rx_10_1, rx_10_2, rx_33_0, rx_33_1, rx_67_0, rx_68_0, rx_197_0, rx_199_5, rx_199_6, rx_199_7, rx_203_0, rx_203_1, rx_203_2, rx_206_0, rx_206_1, rx_206_2, rx_206_3, Option.bind_some, Option.toList_some, Option.toList_none, List.cons_append, List.nil_append, ↓reduceIte]; exact ⟨_, rfl⟩
          · rw [b119_34_c1 (x2 := nI 1) rfl]; simp +decide only [b119_72, S.n, S.k, S.r, hp_n_wi, hp_k_wi, hp_r_wi, hp_n_wl, hp_k_wl, hp_r_wl, hp_n_wb, hp_k_wb, hp_r_wb, zq_rf, kx_0, kx_1, kx_2, kx_3, kx_4, kx_5, kx_6, kx_7, kx_8, kx_9, kx_10, kx_11, kx_12, kx_13, kx_14, kx_15, kx_16, kx_17, kx_33, kx_34, kx_50, kx_66, kx_67, kx_68, kx_69, kx_197, kx_198, kx_199, kx_200, kx_201, kx_202, kx_203, kx_204, kx_205, kx_206, kx_207, kx_208, kx_209, kx_210, rx_0_0, rx_0_1, rx_0_2, rx_0_3, rx_0_4, rx_0_5, rx_0_6, rx_0_7, rx_1_0, rx_1_1, rx_2_3, rx_2_4, rx_2_5, rx_2_6, rx_2_7, rx_2_8, rx_2_9, rx_10_0, rx_10_1, rx_10_2, rx_33_0, rx_33_1, rx_67_0, rx_68_0, rx_197_0, rx_199_5, rx_199_6, rx_199_7, rx_203_0, rx_203_1, rx_203_2, rx_206_0, rx_206_1, rx_206_2, rx_206_3, Option.bind_some, Option.toList_some, Option.toList_none, List.cons_append, List.nil_append, ↓reduceIte]; exact ⟨_, rfl⟩
          · rw [b119_34_c2 (x2 := nI 2) rfl]; simp +decide only [b119_80, S.n, S.k, S.r, hp_n_wi, hp_k_wi, hp_r_wi, hp_n_wl, hp_k_wl, hp_r_wl, hp_n_wb, hp_k_wb, hp_r_wb, zq_rf, kx_0, kx_1, kx_2, kx_3, kx_4, kx_5, kx_6, kx_7, kx_8, kx_9, kx_10, kx_11, kx_12, kx_13, kx_14, kx_15, kx_16, kx_17, kx_33, kx_34, kx_50, kx_66, kx_67, kx_68, kx_69, kx_197, kx_198, kx_199, kx_200, kx_201, kx_202, kx_203, kx_204, kx_205, kx_206, kx_207, kx_208, kx_209, kx_210, rx_0_0, rx_0_1, rx_0_2, rx_0_3, rx_0_4, rx_0_5, rx_0_6, rx_0_7, rx_1_0, rx_1_1, rx_2_3, rx_2_4, rx_2_5, rx_2_6, rx_2_7, rx_2_8, rx_2_9, rx_10_0, rx_10_1, rx_10_2, rx_33_0, rx_33_1, rx_67_0, rx_68_0, rx_197_0, rx_199_5, rx_199_6, rx_199_7, rx_203_0, rx_203_1, rx_203_2, rx_206_0, rx_206_1, rx_206_2, rx_206_3, Option.bind_some, Option.toList_some, Option.toList_none, List.cons_append, List.nil_append, ↓reduceIte]; exact ⟨_, rfl⟩
          · rw [b119_34_c3 (x2 := nI 3) rfl]; simp +decide only [b119_88, S.n, S.k, S.r, hp_n_wi, hp_k_wi, hp_r_wi, hp_n_wl, hp_k_wl, hp_r_wl, hp_n_wb, hp_k_wb, hp_r_wb, zq_rf, kx_0, kx_1, kx_2, kx_3, kx_4, kx_5, kx_6, kx_7, kx_8, kx_9, kx_10, kx_11, kx_12, kx_13, kx_14, kx_15, kx_16, kx_17, kx_33, kx_34, kx_50, kx_66, kx_67, kx_68, kx_69, kx_197, kx_198, kx_199, kx_200, kx_201, kx_202, kx_203, kx_204, kx_205, kx_206, kx_207, kx_208, kx_209, kx_210, rx_0_0, rx_0_1, rx_0_2, rx_0_3, rx_0_4, rx_0_5, rx_0_6, rx_0_7, rx_1_0, rx_1_1, rx_2_3, rx_2_4, rx_2_5, rx_2_6, rx_2_7, rx_2_8, rx_2_9, rx_10_0, rx_10_1, rx_10_2, rx_33_0, rx_33_1, rx_67_0, rx_68_0, rx_197_0, rx_199_5, rx_199_6, rx_199_7, rx_203_0, rx_203_1, rx_203_2, rx_206_0, rx_206_1, rx_206_2, rx_206_3, Option.bind_some, Option.toList_some, Option.toList_none, List.cons_append, List.nil_append, ↓reduceIte]; exact ⟨_, rfl⟩
          · rw [b119_34_d (x2 := nI 4) (Or.inr (by decide))]; simp +decide only [b119_96, S.n, S.k, S.r, hp_n_wi, hp_k_wi, hp_r_wi, hp_n_wl, hp_k_wl, hp_r_wl, hp_n_wb, hp_k_wb, hp_r_wb, zq_rf, kx_0, kx_1, kx_2, kx_3, kx_4, kx_5, kx_6, kx_7, kx_8, kx_9, kx_10, kx_11, kx_12, kx_13, kx_14, kx_15, kx_16, kx_17, kx_33, kx_34, kx_50, kx_66, kx_67, kx_68, kx_69, kx_197, kx_198, kx_199, kx_200, kx_201, kx_202, kx_203, kx_204, kx_205, kx_206, kx_207, kx_208, kx_209, kx_210, rx_0_0, rx_0_1, rx_0_2, rx_0_3, rx_0_4, rx_0_5, rx_0_6, rx_0_7, rx_1_0, rx_1_1, rx_2_3, rx_2_4, rx_2_5, rx_2_6, rx_2_7, rx_2_8, rx_2_9, rx_10_0, rx_10_1, rx_10_2, rx_33_0, rx_33_1, rx_67_0, rx_68_0, rx_197_0, rx_199_5, rx_199_6, rx_199_7, rx_203_0, rx_203_1, rx_203_2, rx_206_0, rx_206_1, rx_206_2, rx_206_3, Option.bind_some, Option.toList_some, Option.toList_none, List.cons_append, List.nil_append, ↓reduceIte]; exact ⟨_, rfl⟩
        obtain ⟨v, ev⟩ := fin
        exact ⟨v, h', ev, O', F'⟩
  · refine CCw.same O ?_
    simp +decide only [b119_0, b119_4, b119_16, S.n, S.k, S.r, hp_n_wi, hp_k_wi, hp_r_wi, hp_n_wl, hp_k_wl, hp_r_wl, hp_n_wb, hp_k_wb, hp_r_wb, zq_rf, kx_0, kx_1, kx_2, kx_3, kx_4, kx_5, kx_6, kx_7, kx_8, kx_9, kx_10, kx_11, kx_12, kx_13, kx_14, kx_15, kx_16, kx_17, kx_33, kx_34, kx_50, kx_66, kx_67, kx_68, kx_69, kx_197, kx_198, kx_199, kx_200, kx_201, kx_202, kx_203, kx_204, kx_205, kx_206, kx_207, kx_208, kx_209, kx_210, rx_0_0, rx_0_1, rx_0_2, rx_0_3, rx_0_4, rx_0_5, rx_0_6, rx_0_7, rx_1_0, rx_1_1, rx_2_3, rx_2_4, rx_2_5, rx_2_6, rx_2_7, rx_2_8, rx_2_9, rx_10_0, rx_10_1, rx_10_2, rx_33_0, rx_33_1, rx_67_0, rx_68_0, rx_197_0, rx_199_5, rx_199_6, rx_199_7, rx_203_0, rx_203_1, rx_203_2, rx_206_0, rx_206_1, rx_206_2, rx_206_3, Option.bind_some, Option.toList_some, Option.toList_none, List.cons_append, List.nil_append, ↓reduceIte, p_135, decide_eq_false hv, zi_bI_f]; exact ⟨_, rfl⟩
theorem c_answw (O : GO h) (x w z : Int32) : CCw h (zv 17 120 0 [.ref 0, .int x, .int w, .int z] [] h) := by
  obtain ⟨S, -⟩ := id O
  by_cases hv : ¬ x < 0 ∧ x < 3
  · by_cases hw : ¬ w < 0 ∧ ¬ 7 < w
    · by_cases hz : z = 0 ∨ z = 1
      · obtain ⟨h', e, O', F'⟩ := w_svw O w x z
        have go : zv 17 120 0 [.ref 0, .int x, .int w, .int z] [] h = zv 17 120 37 [.ref 0, .int x, .int w, .int z] [] h' := by
          simp +decide only [b120_0, b120_4, b120_7, b120_11, b120_14, b120_18, b120_23, S.n, S.k, S.r, hp_n_wi, hp_k_wi, hp_r_wi, hp_n_wl, hp_k_wl, hp_r_wl, hp_n_wb, hp_k_wb, hp_r_wb, zq_rf, kx_0, kx_1, kx_2, kx_3, kx_4, kx_5, kx_6, kx_7, kx_8, kx_9, kx_10, kx_11, kx_12, kx_13, kx_14, kx_15, kx_16, kx_17, kx_33, kx_34, kx_50, kx_66, kx_67, kx_68, kx_69, kx_197, kx_198, kx_199, kx_200, kx_201, kx_202, kx_203, kx_204, kx_205, kx_206, kx_207, kx_208, kx_209, kx_210, rx_0_0, rx_0_1, rx_0_2, rx_0_3, rx_0_4, rx_0_5, rx_0_6, rx_0_7, rx_1_0, rx_1_1, rx_2_3, rx_2_4, rx_2_5, rx_2_6, rx_2_7, rx_2_8, rx_2_9, rx_10_0, rx_10_1, rx_10_2, rx_33_0, rx_33_1, rx_67_0, rx_68_0, rx_197_0, rx_199_5, rx_199_6, rx_199_7, rx_203_0, rx_203_1, rx_203_2, rx_206_0, rx_206_1, rx_206_2, rx_206_3, Option.bind_some, Option.toList_some, Option.toList_none, List.cons_append, List.nil_append, ↓reduceIte, p_133, p_135, p_136, decide_eq_true hv, decide_eq_true hw, decide_eq_true hz, zi_bI_t, e]
        have fin : ∃ v, zv 17 120 37 [.ref 0, .int x, .int w, .int z] [] h' = some (some (.int v), h') := by
          obtain ⟨S, -⟩ := id O'
          simp +decide only [b120_37, S.n, S.k, S.r, hp_n_wi, hp_k_wi, hp_r_wi, hp_n_wl, hp_k_wl, hp_r_wl, hp_n_wb, hp_k_wb, hp_r_wb, zq_rf, kx_0, kx_1, kx_2, kx_3, kx_4, kx_5, kx_6, kx_7, kx_8, kx_9, kx_10, kx_11, kx_12, kx_13, kx_14, kx_15, kx_16, kx_17, kx_33, kx_34, kx_50, kx_66, kx_67, kx_68, kx_69, kx_197, kx_198, kx_199, kx_200, kx_201, kx_202, kx_203, kx_204, kx_205, kx_206, kx_207, kx_208, kx_209, kx_210, rx_0_0, rx_0_1, rx_0_2, rx_0_3, rx_0_4, rx_0_5, rx_0_6, rx_0_7, rx_1_0, rx_1_1, rx_2_3, rx_2_4, rx_2_5, rx_2_6, rx_2_7, rx_2_8, rx_2_9, rx_10_0, rx_10_1, rx_10_2, rx_33_0, rx_33_1, rx_67_0, rx_68_0, rx_197_0, rx_199_5, rx_199_6, rx_199_7, rx_203_0, rx_203_1, rx_203_2, rx_206_0, rx_206_1, rx_206_2, rx_206_3, Option.bind_some, Option.toList_some, Option.toList_none, List.cons_append, List.nil_append, ↓reduceIte]; exact ⟨_, rfl⟩
        obtain ⟨v, ev⟩ := fin
        exact ⟨v, h', by rw [go, ev], O', F'⟩
      · refine CCw.same O ?_
        simp +decide only [b120_0, b120_4, b120_7, b120_11, b120_14, b120_18, b120_21, S.n, S.k, S.r, hp_n_wi, hp_k_wi, hp_r_wi, hp_n_wl, hp_k_wl, hp_r_wl, hp_n_wb, hp_k_wb, hp_r_wb, zq_rf, kx_0, kx_1, kx_2, kx_3, kx_4, kx_5, kx_6, kx_7, kx_8, kx_9, kx_10, kx_11, kx_12, kx_13, kx_14, kx_15, kx_16, kx_17, kx_33, kx_34, kx_50, kx_66, kx_67, kx_68, kx_69, kx_197, kx_198, kx_199, kx_200, kx_201, kx_202, kx_203, kx_204, kx_205, kx_206, kx_207, kx_208, kx_209, kx_210, rx_0_0, rx_0_1, rx_0_2, rx_0_3, rx_0_4, rx_0_5, rx_0_6, rx_0_7, rx_1_0, rx_1_1, rx_2_3, rx_2_4, rx_2_5, rx_2_6, rx_2_7, rx_2_8, rx_2_9, rx_10_0, rx_10_1, rx_10_2, rx_33_0, rx_33_1, rx_67_0, rx_68_0, rx_197_0, rx_199_5, rx_199_6, rx_199_7, rx_203_0, rx_203_1, rx_203_2, rx_206_0, rx_206_1, rx_206_2, rx_206_3, Option.bind_some, Option.toList_some, Option.toList_none, List.cons_append, List.nil_append, ↓reduceIte, p_133, p_135, p_136, decide_eq_true hv, decide_eq_true hw, decide_eq_false hz, zi_bI_t, zi_bI_f]; exact ⟨_, rfl⟩
    · refine CCw.same O ?_
      simp +decide only [b120_0, b120_4, b120_7, b120_11, b120_21, S.n, S.k, S.r, hp_n_wi, hp_k_wi, hp_r_wi, hp_n_wl, hp_k_wl, hp_r_wl, hp_n_wb, hp_k_wb, hp_r_wb, zq_rf, kx_0, kx_1, kx_2, kx_3, kx_4, kx_5, kx_6, kx_7, kx_8, kx_9, kx_10, kx_11, kx_12, kx_13, kx_14, kx_15, kx_16, kx_17, kx_33, kx_34, kx_50, kx_66, kx_67, kx_68, kx_69, kx_197, kx_198, kx_199, kx_200, kx_201, kx_202, kx_203, kx_204, kx_205, kx_206, kx_207, kx_208, kx_209, kx_210, rx_0_0, rx_0_1, rx_0_2, rx_0_3, rx_0_4, rx_0_5, rx_0_6, rx_0_7, rx_1_0, rx_1_1, rx_2_3, rx_2_4, rx_2_5, rx_2_6, rx_2_7, rx_2_8, rx_2_9, rx_10_0, rx_10_1, rx_10_2, rx_33_0, rx_33_1, rx_67_0, rx_68_0, rx_197_0, rx_199_5, rx_199_6, rx_199_7, rx_203_0, rx_203_1, rx_203_2, rx_206_0, rx_206_1, rx_206_2, rx_206_3, Option.bind_some, Option.toList_some, Option.toList_none, List.cons_append, List.nil_append, ↓reduceIte, p_133, p_135, decide_eq_true hv, decide_eq_false hw, zi_bI_t, zi_bI_f]; exact ⟨_, rfl⟩
  · refine CCw.same O ?_
    simp +decide only [b120_0, b120_4, b120_21, S.n, S.k, S.r, hp_n_wi, hp_k_wi, hp_r_wi, hp_n_wl, hp_k_wl, hp_r_wl, hp_n_wb, hp_k_wb, hp_r_wb, zq_rf, kx_0, kx_1, kx_2, kx_3, kx_4, kx_5, kx_6, kx_7, kx_8, kx_9, kx_10, kx_11, kx_12, kx_13, kx_14, kx_15, kx_16, kx_17, kx_33, kx_34, kx_50, kx_66, kx_67, kx_68, kx_69, kx_197, kx_198, kx_199, kx_200, kx_201, kx_202, kx_203, kx_204, kx_205, kx_206, kx_207, kx_208, kx_209, kx_210, rx_0_0, rx_0_1, rx_0_2, rx_0_3, rx_0_4, rx_0_5, rx_0_6, rx_0_7, rx_1_0, rx_1_1, rx_2_3, rx_2_4, rx_2_5, rx_2_6, rx_2_7, rx_2_8, rx_2_9, rx_10_0, rx_10_1, rx_10_2, rx_33_0, rx_33_1, rx_67_0, rx_68_0, rx_197_0, rx_199_5, rx_199_6, rx_199_7, rx_203_0, rx_203_1, rx_203_2, rx_206_0, rx_206_1, rx_206_2, rx_206_3, Option.bind_some, Option.toList_some, Option.toList_none, List.cons_append, List.nil_append, ↓reduceIte, p_133, decide_eq_false hv, zi_bI_f]; exact ⟨_, rfl⟩
theorem c_firsw (O : GO h) (x w z : Int32) : CCw h (zv 17 121 0 [.ref 0, .int x, .int w, .int z] [] h) := by
  obtain ⟨S, -⟩ := id O
  by_cases hv : ¬ x < 0 ∧ x < 3
  · by_cases hw : ¬ w < 0 ∧ ¬ 7 < w
    · by_cases hz : z = 0 ∨ z = 1
      · obtain ⟨h', e, O', F'⟩ := w_svw O w x z
        have go : zv 17 121 0 [.ref 0, .int x, .int w, .int z] [] h = zv 17 121 37 [.ref 0, .int x, .int w, .int z] [] h' := by
          simp +decide only [b121_0, b121_4, b121_7, b121_11, b121_14, b121_18, b121_23, S.n, S.k, S.r, hp_n_wi, hp_k_wi, hp_r_wi, hp_n_wl, hp_k_wl, hp_r_wl, hp_n_wb, hp_k_wb, hp_r_wb, zq_rf, kx_0, kx_1, kx_2, kx_3, kx_4, kx_5, kx_6, kx_7, kx_8, kx_9, kx_10, kx_11, kx_12, kx_13, kx_14, kx_15, kx_16, kx_17, kx_33, kx_34, kx_50, kx_66, kx_67, kx_68, kx_69, kx_197, kx_198, kx_199, kx_200, kx_201, kx_202, kx_203, kx_204, kx_205, kx_206, kx_207, kx_208, kx_209, kx_210, rx_0_0, rx_0_1, rx_0_2, rx_0_3, rx_0_4, rx_0_5, rx_0_6, rx_0_7, rx_1_0, rx_1_1, rx_2_3, rx_2_4, rx_2_5, rx_2_6, rx_2_7, rx_2_8, rx_2_9, rx_10_0, rx_10_1, rx_10_2, rx_33_0, rx_33_1, rx_67_0, rx_68_0, rx_197_0, rx_199_5, rx_199_6, rx_199_7, rx_203_0, rx_203_1, rx_203_2, rx_206_0, rx_206_1, rx_206_2, rx_206_3, Option.bind_some, Option.toList_some, Option.toList_none, List.cons_append, List.nil_append, ↓reduceIte, p_133, p_135, p_136, decide_eq_true hv, decide_eq_true hw, decide_eq_true hz, zi_bI_t, e]
        have fin : ∃ v, zv 17 121 37 [.ref 0, .int x, .int w, .int z] [] h' = some (some (.int v), h') := by
          obtain ⟨S, -⟩ := id O'
          simp +decide only [b121_37, S.n, S.k, S.r, hp_n_wi, hp_k_wi, hp_r_wi, hp_n_wl, hp_k_wl, hp_r_wl, hp_n_wb, hp_k_wb, hp_r_wb, zq_rf, kx_0, kx_1, kx_2, kx_3, kx_4, kx_5, kx_6, kx_7, kx_8, kx_9, kx_10, kx_11, kx_12, kx_13, kx_14, kx_15, kx_16, kx_17, kx_33, kx_34, kx_50, kx_66, kx_67, kx_68, kx_69, kx_197, kx_198, kx_199, kx_200, kx_201, kx_202, kx_203, kx_204, kx_205, kx_206, kx_207, kx_208, kx_209, kx_210, rx_0_0, rx_0_1, rx_0_2, rx_0_3, rx_0_4, rx_0_5, rx_0_6, rx_0_7, rx_1_0, rx_1_1, rx_2_3, rx_2_4, rx_2_5, rx_2_6, rx_2_7, rx_2_8, rx_2_9, rx_10_0, rx_10_1, rx_10_2, rx_33_0, rx_33_1, rx_67_0, rx_68_0, rx_197_0, rx_199_5, rx_199_6, rx_199_7, rx_203_0, rx_203_1, rx_203_2, rx_206_0, rx_206_1, rx_206_2, rx_206_3, Option.bind_some, Option.toList_some, Option.toList_none, List.cons_append, List.nil_append, ↓reduceIte]; exact ⟨_, rfl⟩
        obtain ⟨v, ev⟩ := fin
        exact ⟨v, h', by rw [go, ev], O', F'⟩
      · refine CCw.same O ?_
        simp +decide only [b121_0, b121_4, b121_7, b121_11, b121_14, b121_18, b121_21, S.n, S.k, S.r, hp_n_wi, hp_k_wi, hp_r_wi, hp_n_wl, hp_k_wl, hp_r_wl, hp_n_wb, hp_k_wb, hp_r_wb, zq_rf, kx_0, kx_1, kx_2, kx_3, kx_4, kx_5, kx_6, kx_7, kx_8, kx_9, kx_10, kx_11, kx_12, kx_13, kx_14, kx_15, kx_16, kx_17, kx_33, kx_34, kx_50, kx_66, kx_67, kx_68, kx_69, kx_197, kx_198, kx_199, kx_200, kx_201, kx_202, kx_203, kx_204, kx_205, kx_206, kx_207, kx_208, kx_209, kx_210, rx_0_0, rx_0_1, rx_0_2, rx_0_3, rx_0_4, rx_0_5, rx_0_6, rx_0_7, rx_1_0, rx_1_1, rx_2_3, rx_2_4, rx_2_5, rx_2_6, rx_2_7, rx_2_8, rx_2_9, rx_10_0, rx_10_1, rx_10_2, rx_33_0, rx_33_1, rx_67_0, rx_68_0, rx_197_0, rx_199_5, rx_199_6, rx_199_7, rx_203_0, rx_203_1, rx_203_2, rx_206_0, rx_206_1, rx_206_2, rx_206_3, Option.bind_some, Option.toList_some, Option.toList_none, List.cons_append, List.nil_append, ↓reduceIte, p_133, p_135, p_136, decide_eq_true hv, decide_eq_true hw, decide_eq_false hz, zi_bI_t, zi_bI_f]; exact ⟨_, rfl⟩
    · refine CCw.same O ?_
      simp +decide only [b121_0, b121_4, b121_7, b121_11, b121_21, S.n, S.k, S.r, hp_n_wi, hp_k_wi, hp_r_wi, hp_n_wl, hp_k_wl, hp_r_wl, hp_n_wb, hp_k_wb, hp_r_wb, zq_rf, kx_0, kx_1, kx_2, kx_3, kx_4, kx_5, kx_6, kx_7, kx_8, kx_9, kx_10, kx_11, kx_12, kx_13, kx_14, kx_15, kx_16, kx_17, kx_33, kx_34, kx_50, kx_66, kx_67, kx_68, kx_69, kx_197, kx_198, kx_199, kx_200, kx_201, kx_202, kx_203, kx_204, kx_205, kx_206, kx_207, kx_208, kx_209, kx_210, rx_0_0, rx_0_1, rx_0_2, rx_0_3, rx_0_4, rx_0_5, rx_0_6, rx_0_7, rx_1_0, rx_1_1, rx_2_3, rx_2_4, rx_2_5, rx_2_6, rx_2_7, rx_2_8, rx_2_9, rx_10_0, rx_10_1, rx_10_2, rx_33_0, rx_33_1, rx_67_0, rx_68_0, rx_197_0, rx_199_5, rx_199_6, rx_199_7, rx_203_0, rx_203_1, rx_203_2, rx_206_0, rx_206_1, rx_206_2, rx_206_3, Option.bind_some, Option.toList_some, Option.toList_none, List.cons_append, List.nil_append, ↓reduceIte, p_133, p_135, decide_eq_true hv, decide_eq_false hw, zi_bI_t, zi_bI_f]; exact ⟨_, rfl⟩
  · refine CCw.same O ?_
    simp +decide only [b121_0, b121_4, b121_21, S.n, S.k, S.r, hp_n_wi, hp_k_wi, hp_r_wi, hp_n_wl, hp_k_wl, hp_r_wl, hp_n_wb, hp_k_wb, hp_r_wb, zq_rf, kx_0, kx_1, kx_2, kx_3, kx_4, kx_5, kx_6, kx_7, kx_8, kx_9, kx_10, kx_11, kx_12, kx_13, kx_14, kx_15, kx_16, kx_17, kx_33, kx_34, kx_50, kx_66, kx_67, kx_68, kx_69, kx_197, kx_198, kx_199, kx_200, kx_201, kx_202, kx_203, kx_204, kx_205, kx_206, kx_207, kx_208, kx_209, kx_210, rx_0_0, rx_0_1, rx_0_2, rx_0_3, rx_0_4, rx_0_5, rx_0_6, rx_0_7, rx_1_0, rx_1_1, rx_2_3, rx_2_4, rx_2_5, rx_2_6, rx_2_7, rx_2_8, rx_2_9, rx_10_0, rx_10_1, rx_10_2, rx_33_0, rx_33_1, rx_67_0, rx_68_0, rx_197_0, rx_199_5, rx_199_6, rx_199_7, rx_203_0, rx_203_1, rx_203_2, rx_206_0, rx_206_1, rx_206_2, rx_206_3, Option.bind_some, Option.toList_some, Option.toList_none, List.cons_append, List.nil_append, ↓reduceIte, p_133, decide_eq_false hv, zi_bI_f]; exact ⟨_, rfl⟩
def CLw (h : zi_Hp) (o : Option zi_Rt) : Prop := ∃ (v : Int64) (h' : zi_Hp), o = some (some (.long v), h') ∧ GO h' ∧ Fw h h'
theorem c_chanw (O : GO h) (x w z t : Int32) {u5 u6 : Value} : CLw h (zv 17 122 0 [.ref 0, .int x, .int w, .int z, .int t, u5, u6] [] h) := by
  obtain ⟨S, -⟩ := id O
  by_cases hv : ¬ x < 0 ∧ x < 3
  · by_cases hw : ¬ w < 0 ∧ ¬ 7 < w
    · by_cases hz : z = 0 ∨ z = 1
      · by_cases ht : t = 0 ∨ t = 1
        · obtain ⟨h', e, O', F'⟩ := w_svw O w x z
          have go : zv 17 122 0 [.ref 0, .int x, .int w, .int z, .int t, u5, u6] [] h = zv 17 122 47 [.ref 0, .int x, .int w, .int z, .int t, u5, u6] [] h' := by
            simp +decide only [b122_0, b122_4, b122_7, b122_11, b122_14, b122_18, b122_21, b122_26, b122_33, S.n, S.k, S.r, hp_n_wi, hp_k_wi, hp_r_wi, hp_n_wl, hp_k_wl, hp_r_wl, hp_n_wb, hp_k_wb, hp_r_wb, zq_rf, kx_0, kx_1, kx_2, kx_3, kx_4, kx_5, kx_6, kx_7, kx_8, kx_9, kx_10, kx_11, kx_12, kx_13, kx_14, kx_15, kx_16, kx_17, kx_33, kx_34, kx_50, kx_66, kx_67, kx_68, kx_69, kx_197, kx_198, kx_199, kx_200, kx_201, kx_202, kx_203, kx_204, kx_205, kx_206, kx_207, kx_208, kx_209, kx_210, rx_0_0, rx_0_1, rx_0_2, rx_0_3, rx_0_4, rx_0_5, rx_0_6, rx_0_7, rx_1_0, rx_1_1, rx_2_3, rx_2_4, rx_2_5, rx_2_6, rx_2_7, rx_2_8, rx_2_9, rx_10_0, rx_10_1, rx_10_2, rx_33_0, rx_33_1, rx_67_0, rx_68_0, rx_197_0, rx_199_5, rx_199_6, rx_199_7, rx_203_0, rx_203_1, rx_203_2, rx_206_0, rx_206_1, rx_206_2, rx_206_3, Option.bind_some, Option.toList_some, Option.toList_none, List.cons_append, List.nil_append, ↓reduceIte, p_133, p_135, p_136, decide_eq_true hv, decide_eq_true hw, decide_eq_true hz, decide_eq_true ht, zi_bI_t, e]
          obtain ⟨S, -⟩ := id O'
          obtain ⟨g, eg⟩ : ∃ g : Int64, zv 1 140 0 [.long (zh_l h' 67 8), .double 1, .long 279936, .double 1, .double 0, .double 0, .double 0, .double 0, .double 0, .double 0, .double 0] [] h' = some (some (.long g), h') := by
            rw [b140_0]; exact w_gd 100 0 rfl
          have go2 : zv 17 122 47 [.ref 0, .int x, .int w, .int z, .int t, u5, u6] [] h' = if 0 < lg_cmp g 0 then zv 17 122 73 [.ref 0, .int x, .int w, .int z, .int t, .long g, .double 1] [] h' else zv 17 122 69 [.ref 0, .int x, .int w, .int z, .int t, .long g, .double 1] [] h' := by
            simp +decide only [b122_47, b122_60, S.n, S.k, S.r, hp_n_wi, hp_k_wi, hp_r_wi, hp_n_wl, hp_k_wl, hp_r_wl, hp_n_wb, hp_k_wb, hp_r_wb, zq_rf, kx_0, kx_1, kx_2, kx_3, kx_4, kx_5, kx_6, kx_7, kx_8, kx_9, kx_10, kx_11, kx_12, kx_13, kx_14, kx_15, kx_16, kx_17, kx_33, kx_34, kx_50, kx_66, kx_67, kx_68, kx_69, kx_197, kx_198, kx_199, kx_200, kx_201, kx_202, kx_203, kx_204, kx_205, kx_206, kx_207, kx_208, kx_209, kx_210, rx_0_0, rx_0_1, rx_0_2, rx_0_3, rx_0_4, rx_0_5, rx_0_6, rx_0_7, rx_1_0, rx_1_1, rx_2_3, rx_2_4, rx_2_5, rx_2_6, rx_2_7, rx_2_8, rx_2_9, rx_10_0, rx_10_1, rx_10_2, rx_33_0, rx_33_1, rx_67_0, rx_68_0, rx_197_0, rx_199_5, rx_199_6, rx_199_7, rx_203_0, rx_203_1, rx_203_2, rx_206_0, rx_206_1, rx_206_2, rx_206_3, Option.bind_some, Option.toList_some, Option.toList_none, List.cons_append, List.nil_append, ↓reduceIte, eg]
          rw [go, go2]
          by_cases q : 0 < lg_cmp g 0
          · have hg : ¬ g = 0 := fun q2 => by rw [q2] at q; exact absurd q (by decide)
            rw [if_pos q, b122_73]
            by_cases q0 : t = 0
            · refine ⟨zh_l h' 67 8 / g, h', ?_, O', F'⟩
              simp +decide only [if_pos q0, b122_78, b122_91 hg, S.n, S.k, S.r, hp_n_wi, hp_k_wi, hp_r_wi, hp_n_wl, hp_k_wl, hp_r_wl, hp_n_wb, hp_k_wb, hp_r_wb, zq_rf, kx_0, kx_1, kx_2, kx_3, kx_4, kx_5, kx_6, kx_7, kx_8, kx_9, kx_10, kx_11, kx_12, kx_13, kx_14, kx_15, kx_16, kx_17, kx_33, kx_34, kx_50, kx_66, kx_67, kx_68, kx_69, kx_197, kx_198, kx_199, kx_200, kx_201, kx_202, kx_203, kx_204, kx_205, kx_206, kx_207, kx_208, kx_209, kx_210, rx_0_0, rx_0_1, rx_0_2, rx_0_3, rx_0_4, rx_0_5, rx_0_6, rx_0_7, rx_1_0, rx_1_1, rx_2_3, rx_2_4, rx_2_5, rx_2_6, rx_2_7, rx_2_8, rx_2_9, rx_10_0, rx_10_1, rx_10_2, rx_33_0, rx_33_1, rx_67_0, rx_68_0, rx_197_0, rx_199_5, rx_199_6, rx_199_7, rx_203_0, rx_203_1, rx_203_2, rx_206_0, rx_206_1, rx_206_2, rx_206_3, Option.bind_some, Option.toList_some, Option.toList_none, List.cons_append, List.nil_append, ↓reduceIte]
            · exact ⟨279936 / g, h', by rw [if_neg q0, b122_88, b122_91 hg], O', F'⟩
          · exact ⟨-1, h', by rw [if_neg q, b122_69], O', F'⟩
        · exact ⟨-1, h, by simp +decide only [b122_0, b122_4, b122_7, b122_11, b122_14, b122_18, b122_21, b122_26, b122_29, S.n, S.k, S.r, hp_n_wi, hp_k_wi, hp_r_wi, hp_n_wl, hp_k_wl, hp_r_wl, hp_n_wb, hp_k_wb, hp_r_wb, zq_rf, kx_0, kx_1, kx_2, kx_3, kx_4, kx_5, kx_6, kx_7, kx_8, kx_9, kx_10, kx_11, kx_12, kx_13, kx_14, kx_15, kx_16, kx_17, kx_33, kx_34, kx_50, kx_66, kx_67, kx_68, kx_69, kx_197, kx_198, kx_199, kx_200, kx_201, kx_202, kx_203, kx_204, kx_205, kx_206, kx_207, kx_208, kx_209, kx_210, rx_0_0, rx_0_1, rx_0_2, rx_0_3, rx_0_4, rx_0_5, rx_0_6, rx_0_7, rx_1_0, rx_1_1, rx_2_3, rx_2_4, rx_2_5, rx_2_6, rx_2_7, rx_2_8, rx_2_9, rx_10_0, rx_10_1, rx_10_2, rx_33_0, rx_33_1, rx_67_0, rx_68_0, rx_197_0, rx_199_5, rx_199_6, rx_199_7, rx_203_0, rx_203_1, rx_203_2, rx_206_0, rx_206_1, rx_206_2, rx_206_3, Option.bind_some, Option.toList_some, Option.toList_none, List.cons_append, List.nil_append, ↓reduceIte, p_133, p_135, p_136, decide_eq_true hv, decide_eq_true hw, decide_eq_true hz, decide_eq_false ht, zi_bI_t, zi_bI_f], O, Fw.refl h⟩
      · exact ⟨-1, h, by simp +decide only [b122_0, b122_4, b122_7, b122_11, b122_14, b122_18, b122_29, S.n, S.k, S.r, hp_n_wi, hp_k_wi, hp_r_wi, hp_n_wl, hp_k_wl, hp_r_wl, hp_n_wb, hp_k_wb, hp_r_wb, zq_rf, kx_0, kx_1, kx_2, kx_3, kx_4, kx_5, kx_6, kx_7, kx_8, kx_9, kx_10, kx_11, kx_12, kx_13, kx_14, kx_15, kx_16, kx_17, kx_33, kx_34, kx_50, kx_66, kx_67, kx_68, kx_69, kx_197, kx_198, kx_199, kx_200, kx_201, kx_202, kx_203, kx_204, kx_205, kx_206, kx_207, kx_208, kx_209, kx_210, rx_0_0, rx_0_1, rx_0_2, rx_0_3, rx_0_4, rx_0_5, rx_0_6, rx_0_7, rx_1_0, rx_1_1, rx_2_3, rx_2_4, rx_2_5, rx_2_6, rx_2_7, rx_2_8, rx_2_9, rx_10_0, rx_10_1, rx_10_2, rx_33_0, rx_33_1, rx_67_0, rx_68_0, rx_197_0, rx_199_5, rx_199_6, rx_199_7, rx_203_0, rx_203_1, rx_203_2, rx_206_0, rx_206_1, rx_206_2, rx_206_3, Option.bind_some, Option.toList_some, Option.toList_none, List.cons_append, List.nil_append, ↓reduceIte, p_133, p_135, p_136, decide_eq_true hv, decide_eq_true hw, decide_eq_false hz, zi_bI_t, zi_bI_f], O, Fw.refl h⟩
    · exact ⟨-1, h, by simp +decide only [b122_0, b122_4, b122_7, b122_11, b122_29, S.n, S.k, S.r, hp_n_wi, hp_k_wi, hp_r_wi, hp_n_wl, hp_k_wl, hp_r_wl, hp_n_wb, hp_k_wb, hp_r_wb, zq_rf, kx_0, kx_1, kx_2, kx_3, kx_4, kx_5, kx_6, kx_7, kx_8, kx_9, kx_10, kx_11, kx_12, kx_13, kx_14, kx_15, kx_16, kx_17, kx_33, kx_34, kx_50, kx_66, kx_67, kx_68, kx_69, kx_197, kx_198, kx_199, kx_200, kx_201, kx_202, kx_203, kx_204, kx_205, kx_206, kx_207, kx_208, kx_209, kx_210, rx_0_0, rx_0_1, rx_0_2, rx_0_3, rx_0_4, rx_0_5, rx_0_6, rx_0_7, rx_1_0, rx_1_1, rx_2_3, rx_2_4, rx_2_5, rx_2_6, rx_2_7, rx_2_8, rx_2_9, rx_10_0, rx_10_1, rx_10_2, rx_33_0, rx_33_1, rx_67_0, rx_68_0, rx_197_0, rx_199_5, rx_199_6, rx_199_7, rx_203_0, rx_203_1, rx_203_2, rx_206_0, rx_206_1, rx_206_2, rx_206_3, Option.bind_some, Option.toList_some, Option.toList_none, List.cons_append, List.nil_append, ↓reduceIte, p_133, p_135, decide_eq_true hv, decide_eq_false hw, zi_bI_t, zi_bI_f], O, Fw.refl h⟩
  · exact ⟨-1, h, by simp +decide only [b122_0, b122_4, b122_29, S.n, S.k, S.r, hp_n_wi, hp_k_wi, hp_r_wi, hp_n_wl, hp_k_wl, hp_r_wl, hp_n_wb, hp_k_wb, hp_r_wb, zq_rf, kx_0, kx_1, kx_2, kx_3, kx_4, kx_5, kx_6, kx_7, kx_8, kx_9, kx_10, kx_11, kx_12, kx_13, kx_14, kx_15, kx_16, kx_17, kx_33, kx_34, kx_50, kx_66, kx_67, kx_68, kx_69, kx_197, kx_198, kx_199, kx_200, kx_201, kx_202, kx_203, kx_204, kx_205, kx_206, kx_207, kx_208, kx_209, kx_210, rx_0_0, rx_0_1, rx_0_2, rx_0_3, rx_0_4, rx_0_5, rx_0_6, rx_0_7, rx_1_0, rx_1_1, rx_2_3, rx_2_4, rx_2_5, rx_2_6, rx_2_7, rx_2_8, rx_2_9, rx_10_0, rx_10_1, rx_10_2, rx_33_0, rx_33_1, rx_67_0, rx_68_0, rx_197_0, rx_199_5, rx_199_6, rx_199_7, rx_203_0, rx_203_1, rx_203_2, rx_206_0, rx_206_1, rx_206_2, rx_206_3, Option.bind_some, Option.toList_some, Option.toList_none, List.cons_append, List.nil_append, ↓reduceIte, p_133, decide_eq_false hv, zi_bI_f], O, Fw.refl h⟩
/-- numbers that RX looks at -/
def vi (a j : Nat) : Prop := (a = 197 ∧ j = 1) ∨ a = 198 ∨ a = 204 ∨ a = 205 ∨ (207 ≤ a ∧ a ≤ 210) ∨ (a = 0 ∧ j = 8) ∨ (a = 211 ∧ (j = 8 ∨ j = 38)) ∨ a = 213 ∨ a = 218 ∨ a = 230 ∨ a = 231 ∨ a = 232
theorem RX.sm (X : RX h) (e1 : ∀ a j, 34 ≤ a → a ≤ 66 → zh_i h1 a j = zh_i h a j ∧ zh_b h1 a j = zh_b h a j) (e14 : ∀ j, zh_b h1 214 j = zh_b h 214 j) (ei : ∀ a j, vi a j → zh_i h1 a j = zh_i h a j) : RX h1 := by
  obtain ⟨x1, x2, x3, x4, x5, x6⟩ := X
  have e8 := ei 211 8 (by unfold vi; omega)
  refine ⟨fun k hk => ?_, by rw [ei 197 1 (by unfold vi; omega), e8]; exact x2, x3.same e8 (fun j => ei 198 j (by unfold vi; omega)) (fun j => ei 218 j (by unfold vi; omega)), x4.same (fun k => ⟨ei 204 k (by unfold vi; omega), ei 205 k (by unfold vi; omega), ei 230 k (by unfold vi; omega), ei 231 k (by unfold vi; omega)⟩), x5.same (fun a j q1 q2 => ei a j (by unfold vi; omega)) (fun j => ei 232 j (by unfold vi; omega)), by rw [ei 0 8 (by unfold vi; omega), ei 211 38 (by unfold vi; omega)]; exact x6⟩
  obtain ⟨z1, z2⟩ := x1 k hk
  refine ⟨by rw [(e1 66 k (by decide) (by decide)).2, e14]; exact z1, fun hb => ?_⟩
  rw [e14] at hb
  exact ((z2 hb).sw (SW.of (fun o j ho => (e1 _ _ (by omega) (by omega)).1) (fun o j ho => (e1 _ _ (by omega) (by omega)).2))).congr (fun j hj => ei _ _ (by unfold vi; omega))
/-- a walk of both is done -/
theorem R3.wk0 {L : Nat} (R : R3 L h) {m1 m2 : zi_Hp} (O1 : GO m1) (F1 : Fw h m1) (O2 : RO m2) (F2 : Fz m1 m2) : Sh m1 ∧ zh_L m1 = L ∧ zh_x m1 = zh_x h ∧ R3 L m2 := by
  have Fb1 : Fb h m1 := F1.1.1.1
  obtain ⟨⟨⟨⟨F0, f230⟩, f8⟩, f18, f38⟩, g12, g13, g14⟩ := F2
  have lo : ∀ a j, a < 67 ∨ (197 ≤ a ∧ a < 211) → zh_i m2 a j = zh_i h a j ∧ zh_b m2 a j = zh_b h a j := fun a j ha => ⟨(F0.1 a j (by omega)).1.trans (F1.2 a j (by omega)).1, (F0.1 a j (by omega)).2.1.trans (F1.2 a j (by omega)).2⟩
  have up1 : ∀ a j, 211 ≤ a → zh_i m1 a j = zh_i h a j := fun a j ha => (Fb1.1 a j ha).1
  refine ⟨O1.1, Fb1.2.1.trans R.2.2.2.2, Fb1.2.2, O2, O1.fx O2.1 F0, R.2.2.1.of1 (fun o j ho => lo _ _ (by omega)) (fun j hj => (g12 j hj).trans (up1 212 j (by decide))), R.2.2.2.1.sm (fun a j q1 q2 => lo a j (by omega)) (fun j => (g14 j).trans (Fb1.1 214 j (by decide)).2.1) (fun a j vv => ?_), F0.2.1.trans (Fb1.2.1.trans R.2.2.2.2)⟩
  by_cases ha : a < 211
  · exact (lo a j (by unfold vi at vv; omega)).1
  · rw [← up1 a j (by omega)]
    unfold vi at vv
    have : (a = 211 ∧ j = 8) ∨ (a = 211 ∧ j = 38) ∨ a = 213 ∨ a = 218 ∨ a = 230 ∨ a = 231 ∨ a = 232 := by omega
    rcases this with ⟨rfl, rfl⟩ | ⟨rfl, rfl⟩ | rfl | rfl | rfl | rfl | rfl
    · exact f8
    · exact f38
    · exact g13 j
    · exact (f18 j).1
    · exact (f230 j).1
    · exact (f230 j).2
    · exact (f18 j).2
theorem R3.wk {L : Nat} (R : R3 L h) {o : Option zi_Rt} {F : zi_Hp → Option zi_Rt} (c : CCw h o) (c2 : ∀ {h1 : zi_Hp}, RO h1 → RCq h1 (F h1)) : Al2 L h o F := by
  obtain ⟨v, h1, e1, O1, F1⟩ := c
  obtain ⟨v2, h2, e2, O2, F2⟩ := c2 (R.1.fc O1.1 F1.1.1.1)
  obtain ⟨S1, l1, x1, R2⟩ := R.wk0 O1 F1 O2 F2
  exact ⟨v, v2, h1, h2, e1, S1, l1, x1, e2, R2⟩
theorem a_rows {L : Nat} (R : R3 L h) (x w : Int32) : Al2 L h (zv 17 119 0 [.ref 0, .int x, .int w] [] h) (fun m => zv 8 218 0 [.ref 211, .int x, .int w] [] m) := R.wk (c_roww R.2.1 x w) (fun O => o_rowq O x w)
theorem a_answers {L : Nat} (R : R3 L h) (x w z : Int32) : Al2 L h (zv 17 120 0 [.ref 0, .int x, .int w, .int z] [] h) (fun m => zv 8 220 0 [.ref 211, .int x, .int w, .int z] [] m) := R.wk (c_answw R.2.1 x w z) (fun O => o_answeq O x w z)
theorem a_first {L : Nat} (R : R3 L h) (x w z : Int32) : Al2 L h (zv 17 121 0 [.ref 0, .int x, .int w, .int z] [] h) (fun m => zv 8 221 0 [.ref 211, .int x, .int w, .int z] [] m) := R.wk (c_firsw R.2.1 x w z) (fun O => o_firsq O x w z)
/-- a long answer, two -/
def AlL2 (L : Nat) (h : zi_Hp) (o : Option zi_Rt) (F : zi_Hp → Option zi_Rt) : Prop := ∃ (v v2 : Int64) (h1 h2 : zi_Hp), o = some (some (.long v), h1) ∧ Sh h1 ∧ zh_L h1 = L ∧ zh_x h1 = zh_x h ∧ F h1 = some (some (.long v2), h2) ∧ R3 L h2
theorem a_chance {L : Nat} (R : R3 L h) (x w z t : Int32) {u5 u6 u7 u8 : Value} : AlL2 L h (zv 17 122 0 [.ref 0, .int x, .int w, .int z, .int t, u5, u6] [] h) (fun m => zv 8 223 0 [.ref 211, .int x, .int w, .int z, .int t, u7, u8] [] m) := by
  obtain ⟨v, h1, e1, O1, F1⟩ := c_chanw R.2.1 x w z t (u5 := u5) (u6 := u6)
  obtain ⟨v2, h2, e2, O2, F2⟩ := o_chancq (R.1.fc O1.1 F1.1.1.1) x w z t (u5 := u7) (u6 := u8)
  obtain ⟨S1, l1, x1, R2⟩ := R.wk0 O1 F1 O2 F2
  exact ⟨v, v2, h1, h2, e1, S1, l1, x1, e2, R2⟩
end R34U
end
