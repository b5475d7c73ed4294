/-! THE REFERENCE's read -/
section R24C
variable {h : zi_Hp}
theorem i32_sum {f : Int32} {i p : Nat} (hp : p < 1000) (e : f.toInt + i = p) (hi : i < 1000) : f + nI i = nI p := by
  apply Int32.toInt_inj.mp
  rw [Int32.toInt_add, nI_toInt (by omega), nI_toInt (by omega), e]
  exact Int.bmod_eq_of_le (by omega) (by omega)
theorem i64_sum {f : Int32} {i : Nat} (hi : i < 1000) : (f.toInt64 + (nI i).toInt64).toInt = f.toInt + i := by
  have h1 := Int32.toInt_lt f
  have h2 := Int32.le_toInt f
  rw [Int64.toInt_add, Int32.toInt_toInt64, Int32.toInt_toInt64, nI_toInt (by omega)]
  exact Int.bmod_eq_of_le (by omega) (by omega)
theorem o_does (O : RO h) {a k : Nat} (ha : a ≤ 2) (hk : k ≤ 99) : ∃ x q' s', zv 7 179 0 [.ref 211, .int (nI a), .int (nI k)] [] h = some (some (.int x), zQ h q' s') ∧ Inv s' := by
  have p := q_does (q := (zh_i h 215, zh_i h 216, zh_i h 211 5, zh_b h 217)) O.1 O.2.1 ha hk
  rw [zQ_id] at p
  exact p
/-- the image at the bottom of the stack -/
theorem o_rdL {k n : Nat} (hk : k < 4) (hn : n ≤ 40) {x2 x3 : Int32} : ∀ d i, i + d = n → ∀ {h : zi_Hp} {x5 x6 : Int32} {u8 u9 u10 : Value}, RO h → Inv (fun j => zh_i h 221 (387 * 0 + j)) → RC h (zv 8 237 56 [.ref 211, .int (nI k), .int x2, .int x3, .int (nI n), .int x5, .int x6, .int (nI i), u8, u9, u10] [] h) := by
  intro d
  induction d with
  | zero =>
    intro i hi h x5 x6 u8 u9 u10 O W
    have e : i = n := by omega
    subst e
    obtain ⟨S, J, k1, k2, k3⟩ := id O
    rw [b237_56, if_neg Int32.lt_irrefl, b237_198 (S_g0 S) (S_g1 S)]
    exact ⟨_, _, rfl, ⟨S.wi _ _ _, J, by rw [hp_i_wi, if_neg (by decide)]; exact k1, k2, fun k hk => by rw [hp_i_wi, if_neg (by omega)]; exact k3 k hk⟩, Fr.wi (by decide)⟩
  | succ d ih =>
    intro i hi h x5 x6 u8 u9 u10 O W
    obtain ⟨S, J, k1, k2, k3⟩ := id O
    have done : ∀ {x5 x6 : Int32} {y7 : Int32} {u8 u9 u10 : Value}, RC h (zv 8 237 198 [.ref 211, .int (nI k), .int x2, .int x3, .int (nI n), .int x5, .int x6, .int y7, u8, u9, u10] [] h) := fun {x5 x6 y7 u8 u9 u10} => by
      rw [b237_198 (S_g0 S) (S_g1 S)]
      exact ⟨_, _, rfl, ⟨S.wi _ _ _, J, by rw [hp_i_wi, if_neg (by decide)]; exact k1, k2, fun k hk => by rw [hp_i_wi, if_neg (by omega)]; exact k3 k hk⟩, Fr.wi (by decide)⟩
    have r35 : zh_r h 211 35 = .ref 230 := by rw [S.r, rx_211_35]
    have r36 : zh_r h 211 36 = .ref 231 := by rw [S.r, rx_211_36]
    have r37 : zh_r h 211 37 = .ref 232 := by rw [S.r, rx_211_37]
    have hz4 : ¬ (nI k < 0 ∨ 4 ≤ (nI k).toNatClampNeg) := zj_n (by omega) (by decide)
    obtain ⟨z, hz, ez⟩ := k3 k hk
    rw [b237_56]
    have e3 : nI i < nI n := nI_lt (by omega) (by omega)
    rw [if_pos e3, b237_63]
    by_cases h5 : x5 = 0
    · have nz : ∀ {t : Int32} {y8 : Int64} {x5 x6 : Int32} {u10 : Value}, ¬ t = 0 → RC h (zv 8 237 130 [.ref 211, .int (nI k), .int x2, .int x3, .int (nI n), .int x5, .int x6, .int (nI i), .long y8, .double 1, u10] [.int t] h) := fun {t y8 x5 x6 u10} ht => by
        rw [b237_130, if_neg ht, b237_192, nI_s]
        exact ih (i + 1) (by omega) O W
      rw [if_pos h5, b237_68 (S_g0 S) (S_g1 S) (by rw [r35, zq_rf]) (by rw [r35, zq_rf, S.n]; decide) (by rw [r35, zq_rf, S.k, kx_230]; exact hz4) (by rw [r35, zq_rf, S.k, kx_230]), r35, zq_rf, nI_clamp (by omega)]
      by_cases hl : zh_i h 230 k = -4
      · rw [if_pos hl, b237_87]; exact nz (by decide)
      · rw [if_neg hl, b237_91 (S_g0 S) (S_g1 S) (by rw [r35, zq_rf]) (by rw [r35, zq_rf, S.n]; decide) (by rw [r35, zq_rf, S.k, kx_230]; exact hz4) (by rw [r35, zq_rf, S.k, kx_230]), r35, zq_rf, nI_clamp (by omega)]
        by_cases hl2 : zh_i h 230 k = x2
        · rw [if_pos hl2, b237_105]
          by_cases hy : lg_cmp (x3.toInt64 + (nI i).toInt64) 0 < 0
          · rw [if_pos hy, b237_125]; exact nz (by decide)
          · rw [if_neg hy, b237_112 (S_g0 S) (S_g1 S) (by rw [r36, zq_rf]) (by rw [r36, zq_rf, S.n]; decide) (by rw [r36, zq_rf, S.k, kx_231]; exact hz4) (by rw [r36, zq_rf, S.k, kx_231]), r36, zq_rf, nI_clamp (by omega), ez]
            by_cases hw : lg_cmp (x3.toInt64 + (nI i).toInt64) (nI z).toInt64 < 0
            · have p0 : 0 ≤ x3.toInt + i := by
                have : ¬ (x3.toInt64 + (nI i).toInt64) < 0 := fun w => hy ((lg_cmp_lt _ _).mpr w)
                rw [Int64.lt_iff_toInt_lt, i64_sum (by omega)] at this
                exact Int.not_lt.mp this
              have p1 : x3.toInt + i < z := by
                have := (lg_cmp_lt _ _).mp hw
                rw [Int64.lt_iff_toInt_lt, i64_sum (by omega), Int32.toInt_toInt64, nI_toInt (by omega)] at this
                exact this
              obtain ⟨p, hp⟩ : ∃ p : Nat, x3.toInt + i = p := ⟨(x3.toInt + i).toNat, by omega⟩
              have es : (40 : Int32) * nI k + x3 + nI i = nI (40 * k + p) := by rw [Int32.add_assoc, i32_sum (by omega) hp (by omega), nI_iy]
              rw [if_pos hw, b237_129, b237_130, if_pos rfl, b237_137 (S_g0 S) (S_g1 S) (by rw [r37, zq_rf]) (by rw [r37, zq_rf, S.n]; decide) (by rw [r37, zq_rf, S.k, kx_232, es]; exact zj_n (by omega) (by decide)) (by rw [r37, zq_rf, S.k, kx_232]), r37, zq_rf, es, show (0 : Int64) = (nI 0).toInt64 from rfl, show (99 : Int64) = (nI 99).toInt64 from rfl]
              have undo : ∀ {h2 : zi_Hp} {u10 : Int32} {y8 : Int64} {x5 x6 : Int32}, RO h2 → Fr h h2 → Inv (fun j => zh_i h2 221 (387 * 0 + j)) → RC h (zv 8 237 178 [.ref 211, .int (nI k), .int x2, .int x3, .int (nI n), .int x5, .int x6, .int (nI i), .long y8, .double 1, .int u10] [] h2) := fun {h2 u10 y8 x5 x6} O2 F2 W2 => by
                obtain ⟨S2, J2, m1, m2, m3⟩ := id O2
                rw [b237_178 (S_g0 S2) (S_g1 S2), show (0 : Int32) = nI 0 from rfl, c_restores S2 (by decide)]
                simp only [Option.bind_some, Option.toList_some, Option.toList_none, List.cons_append, List.nil_append]
                rw [b237_183]
                refine ⟨_, _, rfl, ⟨S2.ci _ _ _ _ _, ?_, m1, m2, m3⟩, F2.trans (Fr.ci (by decide))⟩
                refine W2.congr (fun j hj => ?_)
                rw [hp_i_ci, if_pos ⟨rfl, by omega, by omega⟩, Nat.sub_zero]
              rcases in_or (zh_i h 232 (nI (40 * k + p)).toNatClampNeg) 0 99 (by decide) (by decide) with ⟨ke, -, hke, eke, hx⟩ | hx
              · obtain ⟨x, q', s', ed, Js⟩ := o_does O (a := 1) (by decide) hke
                have ed' : zv 7 179 0 [.ref 211, .int 1, .int (nI ke)] [] h = some (some (.int x), zQ h q' s') := ed
                have O2 : RO (zQ h q' s') := ⟨zQ_S S, Js, (show RK h from ⟨k1, k2, k3⟩).zQ⟩
                have W2 : Inv (fun j => zh_i (zQ h q' s') 221 (387 * 0 + j)) := W.congr (fun j _ => zQ_o _ (by decide) (by decide) (by decide) (by decide))
                rw [c_iy hx]
                simp only [Option.bind_some, Option.toList_some, Option.toList_none, List.cons_append, List.nil_append]
                rw [b237_163, if_neg (by decide), b237_166 (S_g0 S) (S_g1 S), eke, ed']
                simp only [Option.bind_some, Option.toList_some, Option.toList_none, List.cons_append, List.nil_append]
                rw [b237_173]
                by_cases hf : x = -3
                · rw [if_pos hf]; exact undo O2 Fr.zQ W2
                · rw [if_neg hf, b237_189, b237_192, nI_s]
                  obtain ⟨y, h', e', O', F'⟩ := ih (i + 1) (by omega) (h := zQ h q' s') (x5 := 0) (x6 := x6 + 1) (u8 := .long (x3.toInt64 + (nI i).toInt64)) (u9 := .double 1) (u10 := .int (nI ke)) O2 W2
                  exact ⟨y, h', e', O', Fr.zQ.trans F'⟩
              · rw [c_iz hx]
                simp only [Option.bind_some, Option.toList_some, Option.toList_none, List.cons_append, List.nil_append]
                rw [b237_163, if_pos rfl]
                exact undo O (Fr.refl h) W
            · rw [if_neg hw, b237_125]; exact nz (by decide)
        · rw [if_neg hl2, b237_101]; exact nz (by decide)
    · rw [if_neg h5]; exact done
theorem o_read (O : RO h) (x y w v : Int32) {u5 u6 u7 u8 u9 u10 : Value} : RC h (zv 8 237 0 [.ref 211, .int x, .int y, .int w, .int v, u5, u6, u7, u8, u9, u10] [] h) := by
  obtain ⟨S, J, k1, k2, k3⟩ := id O
  obtain ⟨N, R, M, B, L, m, H, r, K, C, f, I⟩ := id J
  by_cases hs : (nI 0 ≤ x ∧ x ≤ nI 3) ∧ (nI 0 ≤ y ∧ y ≤ nI 2)
  · obtain ⟨k, hk, rfl⟩ : ∃ k, k ≤ 3 ∧ x = nI k := by
      rcases in_or x 0 3 (by decide) (by decide) with ⟨k, -, h1, h2, -⟩ | h3
      · exact ⟨k, h1, h2⟩
      · exact absurd hs.1 h3
    rw [b237_0, q_shy hs.1 hs.2]
    simp only [Option.bind_some, Option.toList_some, Option.toList_none, List.cons_append, List.nil_append]
    rw [b237_5, if_neg (by decide), b237_8, show (0 : Int64) = (nI 0).toInt64 from rfl, show (40 : Int64) = (nI 40).toInt64 from rfl]
    rcases in_or v 0 40 (by decide) (by decide) with ⟨n, -, hn, rfl, hx⟩ | hx
    · have c0 : zv 1 146 0 [.ref 211, .int 0, .int 0] [] h = some (some (.int (zh_i h 212 (315 + 24 * 0))), h) := r_oc0 S (c := 0) (by decide)
      have lm : ∃ y, zv 3 198 0 [.ref 211, .double 0, .double 0] [] h = some (some (.int y), h) := by
        have p := q_lm (q := (zh_i h 215, zh_i h 216, zh_i h 211 5, zh_b h 217)) S I.1.1.1 I.1.1.2.2 (u1 := .double 0) (u2 := .double 0)
        rw [zQ_id] at p
        exact ⟨_, p⟩
      obtain ⟨y2, ey⟩ := lm
      rw [c_iy hx]
      simp only [Option.bind_some, Option.toList_some, Option.toList_none, List.cons_append, List.nil_append]
      rw [b237_18, if_neg (by decide), b237_23 (S_g0 S) (S_g1 S), c0]
      simp only [Option.bind_some, Option.toList_some, Option.toList_none, List.cons_append, List.nil_append]
      rw [b237_29]
      by_cases h0 : zh_i h 212 (315 + 24 * 0) = 0
      · rw [if_pos h0, b237_32 (S_g0 S) (S_g1 S), ey]
        simp only [Option.bind_some, Option.toList_some, Option.toList_none, List.cons_append, List.nil_append]
        rw [b237_36]
        by_cases hy : 0 < y2
        · rw [if_pos hy, b237_39]; exact sm_rc O ⟨_, rfl⟩
        · have sv : zv 1 211 0 [.ref 211, .int 0, .double 0] [] h = some (none, zh_ci h 212 0 221 (387 * 0) 387) := c_saves S (d := 0) (by decide)
          rw [if_neg hy, b237_42 (S_g0 S) (S_g1 S), sv]
          simp only [Option.bind_some, Option.toList_some, Option.toList_none, List.cons_append, List.nil_append]
          rw [b237_47]
          obtain ⟨y, h', e', O', F'⟩ := o_rdL (k := k) (by omega) (n := n) hn (x2 := y) (x3 := w) n 0 (Nat.zero_add _) (h := zh_ci h 212 0 221 (387 * 0) 387) (x5 := 0) (x6 := 0) (u8 := u8) (u9 := u9) (u10 := u10) ⟨S.ci _ _ _ _ _, J, k1, k2, k3⟩ (J.congr (fun j hj => by rw [hp_i_ci, if_pos ⟨rfl, by omega, by omega⟩, Nat.zero_add, show 387 * 0 + j - 387 * 0 = j by omega]))
          exact ⟨y, h', e', O', (Fr.ci (by decide)).trans F'⟩
      · rw [if_neg h0, b237_39]; exact sm_rc O ⟨_, rfl⟩
    · rw [c_iz hx]
      simp only [Option.bind_some, Option.toList_some, Option.toList_none, List.cons_append, List.nil_append]
      rw [b237_18, if_pos rfl, b237_21]; exact sm_rc O ⟨_, rfl⟩
  · rw [b237_0, q_shn hs]
    simp only [Option.bind_some, Option.toList_some, Option.toList_none, List.cons_append, List.nil_append]
    rw [b237_5, if_pos rfl, b237_21]; exact sm_rc O ⟨_, rfl⟩
end R24C
