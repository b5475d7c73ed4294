/-! THE REFERENCE's room, leaf, check, count -/
section R23E
variable {h : zi_Hp} {q : zQs} {s s' : Nat → Int32} {N R M B : Nat} {L m H r : Nat → Nat} {K C : Nat → Nat → Nat} {f : Nat → Nat} {c : Nat}
/-- another room -/
theorem InvG.room (I : InvG s N R M B L m H r K C f) {v : Nat} (h2 : 2 ≤ v) (h4 : v ≤ 4) (hv : ∀ n, n < N → m n ≤ v) : InvG (up s 314 (nI v)) N R v B L m H r K C f := by
  obtain ⟨⟨⟨a1, a2, a3⟩, ⟨b1, b2⟩, ⟨d1, d2, d3⟩, G, o, z⟩, ⟨i2, i3⟩, i4⟩ := I
  have ec : ∀ d w, up s 314 (nI v) (315 + 24 * d + w) = s (315 + 24 * d + w) := fun d w => up_n _ _ (by omega)
  have ec0 : ∀ d, up s 314 (nI v) (315 + 24 * d) = s (315 + 24 * d) := fun d => up_n _ _ (by omega)
  refine ⟨⟨⟨by rw [up_n _ _ (by decide)]; exact a1, a2, a3⟩, ⟨by rw [up_n _ _ (by decide)]; exact b1, b2⟩, ⟨up_s _ _ _, h2, h4⟩, fun n hn => ?_, o, z⟩, ⟨fun d hd => (i2 d hd).mono hd (fun w _ => ec d w) (Nat.le_refl _) (fun b _ => ⟨rfl, Nat.le_refl _⟩) (Nat.le_refl _) (fun a _ _ _ => Nat.le_refl _), fun a b ha hb hab h1 h2 => ?_⟩, ?_⟩
  · obtain ⟨⟨g1, g2, g3⟩, g4, g5, g6, g7, g8, g9, g10, g11⟩ := G n hn
    have en : ∀ w, w < 13 → up s 314 (nI v) (13 * n + w) = s (13 * n + w) := fun w hw => up_n _ _ (by omega)
    have en0 : up s 314 (nI v) (13 * n) = s (13 * n) := en 0 (by decide)
    unfold nodeG
    rw [en0, en 1 (by decide), en 2 (by decide), en 3 (by decide), en 4 (by decide)]
    refine ⟨⟨g1, g2, g3⟩, g4, g5, fun i hi => ?_, g7, fun hl => ?_, g9, hv n hn, g11⟩
    · rw [en _ (by omega)]; exact g6 i hi
    · obtain ⟨k1, k2, k3, k4⟩ := g8 hl
      refine ⟨k1, k2, fun i hi => ?_, k4⟩
      rw [en _ (by omega)]; exact k3 i hi
  · unfold hoC at h1 h2
    rw [ec0] at h1 h2
    rw [ec, ec]
    exact i3 a b ha hb hab h1 h2
  · unfold InvS at *
    rw [sumN_congr (n := 3) (g := pnC (up s 314 (nI v))) (g' := pnC s) (fun d hd => pnC_e (ec0 d) (ec d 11))]
    exact i4
theorem u_room (S : Sh h) (J : Inv s) (x : Int32) {u2 : Value} : RV h (zv 2 210 0 [.ref 211, .int x, u2] [] (zQ h q s)) := by
  obtain ⟨N, R, M, B, L, m, H, r, K, C, f, I⟩ := id J
  obtain ⟨⟨⟨a1, a2, a3⟩, ⟨b1, b2⟩, ⟨d1, d2, d3⟩, G, o, z⟩, -, -⟩ := id I
  rw [b210_0, show (2 : Int64) = (nI 2).toInt64 from rfl, show (4 : Int64) = (nI 4).toInt64 from rfl]
  rcases in_or x 2 4 (by decide) (by decide) with ⟨v, hv2, hv4, rfl, hx⟩ | hx
  · rw [c_iy hx]
    simp only [Option.bind_some, Option.toList_some, Option.toList_none, List.cons_append, List.nil_append]
    rw [b210_11, if_neg (by decide), b210_16]
    have lp : ∀ d n, n + d = N → (∀ i, i < n → m i ≤ v) → RV h (zv 2 210 18 [.ref 211, .int (nI v), .int (nI n)] [] (zQ h q s)) := by
      intro d
      induction d with
      | zero =>
        intro n hn hm
        have e : n = N := by omega
        subst e
        rw [b210_18 (q_g0 S) (q_g1 S) (by rw [q_r0 S, zq_rf]) (by rw [q_r0 S, zq_rf, zQ_n, S.n]; decide) (by rw [q_r0 S, zq_rf, zQ_k, S.k, kx_212]; decide) (by rw [q_r0 S, zq_rf, zQ_k, S.k, kx_212]), q_r0 S, zq_rf, zQ_212, a1, if_neg Int32.lt_irrefl, b210_49 (q_g0 S) (q_g1 S) (by rw [q_r0 S, zq_rf]) (by rw [q_r0 S, zq_rf, zQ_n, S.n]; decide) (by rw [q_r0 S, zq_rf, zQ_k, S.k, kx_212]; decide) (by rw [q_r0 S, zq_rf, zQ_k, S.k, kx_212]), q_r0 S, zq_rf, zQ_w]
        exact ⟨_, q, _, rfl, (I.room hv2 hv4 hm).inv⟩
      | succ d ih =>
        intro n hn hm
        have e3 : nI n < nI N := nI_lt (by omega) (by omega)
        have g2 := (G n (by omega)).1.2.1
        have g10 := (G n (by omega)).2.2.2.2.2.2.2.1
        rw [b210_18 (q_g0 S) (q_g1 S) (by rw [q_r0 S, zq_rf]) (by rw [q_r0 S, zq_rf, zQ_n, S.n]; decide) (by rw [q_r0 S, zq_rf, zQ_k, S.k, kx_212]; decide) (by rw [q_r0 S, zq_rf, zQ_k, S.k, kx_212]), q_r0 S, zq_rf, zQ_212, a1, if_pos e3, b210_30 (q_g0 S) (q_g1 S), q_of1 S (by omega), g2]
        simp only [Option.bind_some, Option.toList_some, Option.toList_none, List.cons_append, List.nil_append]
        rw [b210_36]
        by_cases hvm : v < m n
        · rw [if_pos (nI_lt hvm (by omega)), b210_40]
          exact ⟨_, q, s, rfl, J⟩
        · rw [if_neg (nI_nlt (by omega) (by omega)), b210_43, nI_s]
          refine ih (n + 1) (by omega) (fun i hi => ?_)
          by_cases e : i = n
          · subst e; omega
          · exact hm i (by omega)
    exact lp N 0 (Nat.zero_add _) (fun i hi => absurd hi (Nat.not_lt_zero i))
  · rw [c_iz hx]
    simp only [Option.bind_some, Option.toList_some, Option.toList_none, List.cons_append, List.nil_append]
    rw [b210_11, if_pos rfl, b210_14]
    exact ⟨_, q, s, rfl, J⟩
theorem u_leaf (S : Sh h) (J : Inv s) (x : Int32) {u2 u3 : Value} : ∃ y, zv 2 231 0 [.ref 211, .int x, u2, u3] [] (zQ h q s) = some (some (.int y), zQ h q s) := by
  obtain ⟨N, R, M, B, L, m, H, r, K, C, f, I⟩ := id J
  obtain ⟨⟨⟨a1, a2, a3⟩, ⟨b1, b2⟩, ⟨d1, d2, d3⟩, G, o, z⟩, -, -⟩ := id I
  have lp : ∀ d n (k : Int32), n < N → N ≤ f n + d → ∃ y, zv 2 231 10 [.ref 211, .int x, .int (nI n), .int k] [] (zQ h q s) = some (some (.int y), zQ h q s) := by
    intro d
    induction d with
    | zero => intro n k hn hd; have := (G n hn).2.2.2.2.2.2.2.2.2; omega
    | succ d ih =>
      intro n k hn hd
      by_cases hk : k < x
      · rw [b231_10, if_pos hk, b231_15, if_neg (nI_n4 n (by omega)), b231_21 (q_g0 S) (q_g1 S), q_of3 S (by omega)]
        simp only [Option.bind_some, Option.toList_some, Option.toList_none, List.cons_append, List.nil_append]
        rw [b231_27]
        rcases (G n hn).2.1 with ⟨w, -⟩ | ⟨w1, w2, w3, w4⟩
        · rw [w, b231_10]
          by_cases hk2 : k + 1 < x
          · rw [if_pos hk2, b231_15, if_pos rfl, b231_34]
            exact ⟨_, rfl⟩
          · rw [if_neg hk2, b231_34]
            exact ⟨_, rfl⟩
        · rw [w1]
          exact ih (r n) _ w2 (by omega)
      · rw [b231_10, if_neg hk, b231_34]
        exact ⟨_, rfl⟩
  rw [b231_0]
  by_cases h0 : x < 0
  · rw [if_pos h0, b231_4]; exact ⟨_, rfl⟩
  · rw [if_neg h0, b231_6]
    exact lp N 0 0 (by omega) (by omega)
/-- keys rise -/
theorem q_ri (S : Sh h) (I : InvG s N R M B L m H r K C f) {u1 u2 u3 : Value} : zv 2 224 0 [.ref 211, u1, u2, u3] [] (zQ h q s) = some (some (.int 1), zQ h q s) := by
  obtain ⟨⟨⟨a1, a2, a3⟩, ⟨b1, b2⟩, ⟨d1, d2, d3⟩, G, o, z⟩, -, -⟩ := I
  have inner : ∀ n, n < N → ∀ d i, 1 ≤ i → i + d = m n + 1 → ∃ u, zv 2 224 18 [.ref 211, .int 1, .int (nI n), .int (nI i)] [] (zQ h q s) = zv 2 224 65 [.ref 211, .int 1, .int (nI n), .int u] [] (zQ h q s) := by
    intro n hn d
    have g10 := (G n hn).2.2.2.2.2.2.2.1
    have g2 := (G n hn).1.2.1
    induction d with
    | zero =>
      intro i h1 hi
      refine ⟨nI i, ?_⟩
      rw [b224_18 (q_g0 S) (q_g1 S), q_of1 S (by omega), g2]
      simp only [Option.bind_some, Option.toList_some, Option.toList_none, List.cons_append, List.nil_append]
      rw [b224_25, if_neg (nI_nlt (by omega) (by omega))]
    | succ d ih =>
      intro i h1 hi
      rw [b224_18 (q_g0 S) (q_g1 S), q_of1 S (by omega), g2]
      simp only [Option.bind_some, Option.toList_some, Option.toList_none, List.cons_append, List.nil_append]
      rw [b224_25]
      by_cases hm : i < m n
      · have e5 : (5 : Int32) + nI i = nI (5 + i) := nI_add 5 i
        have e4 : nI (5 + i) - 1 = nI (5 + (i - 1)) := by rw [show (1 : Int32) = nI 1 from rfl, nI_sub (by omega), show 5 + i - 1 = 5 + (i - 1) by omega]
        have k1 := (G n hn).2.2.2.1 i hm
        have k2 := (G n hn).2.2.2.1 (i - 1) (by omega)
        have k3 := (G n hn).2.2.2.2.1 (i - 1) (by omega)
        rw [show i - 1 + 1 = i by omega] at k3
        rw [if_pos (nI_lt hm (by omega)), b224_28, if_neg (by decide), b224_32 (q_g0 S) (q_g1 S), e5, q_of S (by omega) (by omega)]
        simp only [Option.bind_some, Option.toList_some, Option.toList_none, List.cons_append, List.nil_append]
        rw [b224_40 (q_g0 S) (q_g1 S), e5, e4, q_of S (by omega) (by omega)]
        simp only [Option.bind_some, Option.toList_some, Option.toList_none, List.cons_append, List.nil_append]
        rw [b224_50, k1.1, k2.1, if_pos (nI_lt k3 (by omega)), b224_53, b224_58, nI_s]
        exact ih (i + 1) (by omega) (by omega)
      · rw [if_neg (nI_nlt (by omega) (by omega))]
        exact ⟨nI i, rfl⟩
  have outer : ∀ d n (u : Value), n + d = N → zv 2 224 4 [.ref 211, .int 1, .int (nI n), u] [] (zQ h q s) = some (some (.int 1), zQ h q s) := by
    intro d
    induction d with
    | zero =>
      intro n u hn
      have e : n = N := by omega
      subst e
      rw [b224_4 (q_g0 S) (q_g1 S) (by rw [q_r0 S, zq_rf]) (by rw [q_r0 S, zq_rf, zQ_n, S.n]; decide) (by rw [q_r0 S, zq_rf, zQ_k, S.k, kx_212]; decide) (by rw [q_r0 S, zq_rf, zQ_k, S.k, kx_212]), q_r0 S, zq_rf, zQ_212, a1, if_neg Int32.lt_irrefl, b224_71 (Or.inr rfl)]
    | succ d ih =>
      intro n u hn
      have g10 := (G n (by omega)).2.2.2.2.2.2.2.1
      have e3 : nI n < nI N := nI_lt (by omega) (by omega)
      rw [b224_4 (q_g0 S) (q_g1 S) (by rw [q_r0 S, zq_rf]) (by rw [q_r0 S, zq_rf, zQ_n, S.n]; decide) (by rw [q_r0 S, zq_rf, zQ_k, S.k, kx_212]; decide) (by rw [q_r0 S, zq_rf, zQ_k, S.k, kx_212]), q_r0 S, zq_rf, zQ_212, a1, if_pos e3, b224_16]
      obtain ⟨u', eu⟩ := inner n (by omega) (m n) 1 (Nat.le_refl _) (by omega)
      rw [show (1 : Int32) = nI 1 from rfl] at eu ⊢
      rw [eu, b224_65, nI_s]
      exact ih (n + 1) _ (by omega)
  rw [b224_0]
  exact outer N 0 u3 (Nat.zero_add _)
/-- keys lie below HIGH -/
def bhG (s : Nat → Int32) (n : Nat) (a : Bool) : Bool := if s (13 * n) = 0 ∧ s (13 * n + 4) = 0 ∧ 0 < s (13 * n + 1) then a && decide (¬ s (13 * n + 2) < s (13 * n + (5 + ((s (13 * n + 1)).toNatClampNeg - 1)))) else a
theorem q_bh (S : Sh h) (I : InvG s N R M B L m H r K C f) {u1 u2 : Value} : zv 2 225 0 [.ref 211, u1, u2] [] (zQ h q s) = some (some (.int (zi_bI (itF (bhG s) N 0 true))), zQ h q s) := by
  obtain ⟨⟨⟨a1, a2, a3⟩, ⟨b1, b2⟩, ⟨d1, d2, d3⟩, G, o, z⟩, -, -⟩ := I
  rw [b225_0]
  refine lpF (F := fun a n => zv 2 225 4 [.ref 211, .int (zi_bI a), .int n] [] (zQ h q s)) (E := fun a => some (some (.int (zi_bI a)), zQ h q s)) (g := bhG s) (N := N) (fun n a hn => ?_) (fun a => ?_) N 0 true (Nat.zero_add _)
  · have e3 : nI n < nI N := nI_lt hn (by omega)
    have g10 := (G n hn).2.2.2.2.2.2.2.1
    have g2 := (G n hn).1.2.1
    try dsimp only
    rw [b225_4 (q_g0 S) (q_g1 S) (by rw [q_r0 S, zq_rf]) (by rw [q_r0 S, zq_rf, zQ_n, S.n]; decide) (by rw [q_r0 S, zq_rf, zQ_k, S.k, kx_212]; decide) (by rw [q_r0 S, zq_rf, zQ_k, S.k, kx_212]), q_r0 S, zq_rf, zQ_212, a1, if_pos e3, b225_16 (q_g0 S) (q_g1 S), q_of0 S (by omega)]
    simp only [Option.bind_some, Option.toList_some, Option.toList_none, List.cons_append, List.nil_append]
    rw [b225_22]
    by_cases h0 : s (13 * n) = 0
    · rw [if_pos h0, b225_25 (q_g0 S) (q_g1 S), q_of4 S (by omega)]
      simp only [Option.bind_some, Option.toList_some, Option.toList_none, List.cons_append, List.nil_append]
      rw [b225_31]
      by_cases h4 : s (13 * n + 4) = 0
      · rw [if_pos h4, b225_34 (q_g0 S) (q_g1 S), q_of1 S (by omega)]
        simp only [Option.bind_some, Option.toList_some, Option.toList_none, List.cons_append, List.nil_append]
        rw [b225_40]
        by_cases hm : 0 < s (13 * n + 1)
        · have hm0 : 1 ≤ m n := by
            refine Nat.pos_of_ne_zero (fun w => ?_)
            rw [g2, w] at hm
            exact absurd hm (by decide)
          have eb : bhG s n a = (a && decide (¬ s (13 * n + 2) < s (13 * n + (5 + (m n - 1))))) := by rw [bhG, if_pos ⟨h0, h4, hm⟩, g2, nI_clamp (by omega)]
          have e5 : (5 : Int32) + nI (m n) - 1 = nI (5 + (m n - 1)) := by rw [show (1 : Int32) = nI 1 from rfl, show (5 : Int32) = nI 5 from rfl, nI_add, nI_sub (by omega), show 5 + m n - 1 = 5 + (m n - 1) by omega]
          rw [if_pos hm, b225_43, eb]
          cases a with
          | false => rw [zi_bI_f, if_pos rfl, b225_75, b225_76, b225_77, nI_s]; rfl
          | true =>
            rw [zi_bI_t, if_neg (by decide), b225_47 (q_g0 S) (q_g1 S), q_of1 S (by omega), g2]
            simp only [Option.bind_some, Option.toList_some, Option.toList_none, List.cons_append, List.nil_append]
            rw [b225_56 (q_g0 S) (q_g1 S), e5, q_of S (by omega) (by omega)]
            simp only [Option.bind_some, Option.toList_some, Option.toList_none, List.cons_append, List.nil_append]
            rw [b225_62 (q_g0 S) (q_g1 S), q_of2 S (by omega)]
            simp only [Option.bind_some, Option.toList_some, Option.toList_none, List.cons_append, List.nil_append]
            rw [b225_68]
            by_cases hh : s (13 * n + 2) < s (13 * n + (5 + (m n - 1)))
            · rw [if_pos hh, b225_75, b225_76, b225_77, nI_s, decide_eq_false (fun w => w hh)]; rfl
            · rw [if_neg hh, b225_71, b225_76, b225_77, nI_s, decide_eq_true hh]; rfl
        · rw [if_neg hm, b225_77, nI_s, bhG, if_neg (fun w => hm w.2.2)]
      · rw [if_neg h4, b225_77, nI_s, bhG, if_neg (fun w => h4 w.2.1)]
    · rw [if_neg h0, b225_77, nI_s, bhG, if_neg (fun w => h0 w.1)]
  · try dsimp only
    rw [b225_4 (q_g0 S) (q_g1 S) (by rw [q_r0 S, zq_rf]) (by rw [q_r0 S, zq_rf, zQ_n, S.n]; decide) (by rw [q_r0 S, zq_rf, zQ_k, S.k, kx_212]; decide) (by rw [q_r0 S, zq_rf, zQ_k, S.k, kx_212]), q_r0 S, zq_rf, zQ_212, a1, if_neg Int32.lt_irrefl, b225_83 (bI_01 a)]
/-- RIGHTS hold (levels 0: highs; 1: levels) -/
def rhG (s : Nat → Int32) (x : Int32) (n : Nat) (a : Bool) : Bool := if s (13 * n + 3) = -4 then a else a && (if x = 0 then decide (s (13 * n + 4) = 1 ∨ s (13 * n + 2) < s (13 * (s (13 * n + 3)).toNatClampNeg + 2)) else decide (s (13 * n) = s (13 * (s (13 * n + 3)).toNatClampNeg)))
theorem q_rh (S : Sh h) (I : InvG s N R M B L m H r K C f) {x : Int32} {u2 u3 u4 : Value} : zv 2 226 0 [.ref 211, .int x, u2, u3, u4] [] (zQ h q s) = some (some (.int (zi_bI (itF (rhG s x) N 0 true))), zQ h q s) := by
  obtain ⟨⟨⟨a1, a2, a3⟩, ⟨b1, b2⟩, ⟨d1, d2, d3⟩, G, o, z⟩, -, -⟩ := I
  have outer : ∀ d n a (u : Value), n + d = N → zv 2 226 4 [.ref 211, .int x, .int (zi_bI a), .int (nI n), u] [] (zQ h q s) = some (some (.int (zi_bI (itF (rhG s x) d n a))), zQ h q s) := by
    intro d
    induction d with
    | zero =>
      intro n a u hn
      have e : n = N := by omega
      subst e
      rw [b226_4 (q_g0 S) (q_g1 S) (by rw [q_r0 S, zq_rf]) (by rw [q_r0 S, zq_rf, zQ_n, S.n]; decide) (by rw [q_r0 S, zq_rf, zQ_k, S.k, kx_212]; decide) (by rw [q_r0 S, zq_rf, zQ_k, S.k, kx_212]), q_r0 S, zq_rf, zQ_212, a1, if_neg Int32.lt_irrefl, b226_96 (bI_01 a)]; rfl
    | succ d ih =>
      intro n a u hn
      have hnN : n < N := by omega
      have e3 : nI n < nI N := nI_lt hnN (by omega)
      show _ = some (some (Value.int (zi_bI (itF (rhG s x) d (n + 1) (rhG s x n a)))), zQ h q s)
      rw [b226_4 (q_g0 S) (q_g1 S) (by rw [q_r0 S, zq_rf]) (by rw [q_r0 S, zq_rf, zQ_n, S.n]; decide) (by rw [q_r0 S, zq_rf, zQ_k, S.k, kx_212]; decide) (by rw [q_r0 S, zq_rf, zQ_k, S.k, kx_212]), q_r0 S, zq_rf, zQ_212, a1, if_pos e3, b226_16 (q_g0 S) (q_g1 S), q_of3 S (by omega)]
      simp only [Option.bind_some, Option.toList_some, Option.toList_none, List.cons_append, List.nil_append]
      rw [b226_22]
      rcases (G n hnN).2.1 with ⟨w, -⟩ | ⟨w1, w2, w3, w4⟩
      · rw [if_pos w, b226_90, nI_s, ih _ _ _ (by omega), rhG, if_pos w]
      · have h4 : ¬ s (13 * n + 3) = -4 := by rw [w1]; exact nI_n4 _ (by omega)
        have eb : rhG s x n a = (a && (if x = 0 then decide (s (13 * n + 4) = 1 ∨ s (13 * n + 2) < s (13 * r n + 2)) else decide (s (13 * n) = s (13 * r n)))) := by rw [rhG, if_neg h4, w1, nI_clamp (by omega)]
        have fin : ∀ b : Bool, zv 2 226 89 [.ref 211, .int x, .int (zi_bI a), .int (nI n), .int (nI (r n))] [.int (zi_bI b)] (zQ h q s) = some (some (.int (zi_bI (itF (rhG s x) d (n + 1) b))), zQ h q s) := fun b => by rw [b226_89, b226_90, nI_s, ih _ _ _ (by omega)]
        have f0 : zv 2 226 88 [.ref 211, .int x, .int (zi_bI a), .int (nI n), .int (nI (r n))] [] (zQ h q s) = some (some (.int (zi_bI (itF (rhG s x) d (n + 1) false))), zQ h q s) := by rw [b226_88]; exact fin false
        have f1 : zv 2 226 84 [.ref 211, .int x, .int (zi_bI a), .int (nI n), .int (nI (r n))] [] (zQ h q s) = some (some (.int (zi_bI (itF (rhG s x) d (n + 1) true))), zQ h q s) := by rw [b226_84]; exact fin true
        rw [if_neg h4, w1, eb, b226_31]
        cases a with
        | false => rw [zi_bI_f, if_pos rfl, Bool.false_and]; exact f0
        | true =>
          rw [zi_bI_t, if_neg (by decide), Bool.true_and, b226_35]
          by_cases hx : x = 0
          · rw [if_pos hx, if_pos hx, b226_58 (q_g0 S) (q_g1 S), q_of4 S (by omega)]
            simp only [Option.bind_some, Option.toList_some, Option.toList_none, List.cons_append, List.nil_append]
            rw [b226_64]
            by_cases hd : s (13 * n + 4) = 1
            · rw [if_pos hd, decide_eq_true (Or.inl hd)]; exact f1
            · rw [if_neg hd, b226_68 (q_g0 S) (q_g1 S), q_of2 S (by omega)]
              simp only [Option.bind_some, Option.toList_some, Option.toList_none, List.cons_append, List.nil_append]
              rw [b226_74 (q_g0 S) (q_g1 S), q_of2 S (by omega)]
              simp only [Option.bind_some, Option.toList_some, Option.toList_none, List.cons_append, List.nil_append]
              rw [b226_81]
              by_cases hh : s (13 * n + 2) < s (13 * r n + 2)
              · rw [if_pos hh, decide_eq_true (Or.inr hh)]; exact f1
              · rw [if_neg hh, decide_eq_false (fun w => w.elim hd hh)]; exact f0
          · rw [if_neg hx, if_neg hx, b226_39 (q_g0 S) (q_g1 S), q_of0 S (by omega)]
            simp only [Option.bind_some, Option.toList_some, Option.toList_none, List.cons_append, List.nil_append]
            rw [b226_45 (q_g0 S) (q_g1 S), q_of0 S (by omega)]
            simp only [Option.bind_some, Option.toList_some, Option.toList_none, List.cons_append, List.nil_append]
            rw [b226_52]
            by_cases hh : s (13 * n) = s (13 * r n)
            · rw [if_pos hh, b226_55, decide_eq_true hh]; exact f1
            · rw [if_neg hh, decide_eq_false hh]; exact f0
  rw [b226_0]
  exact outer N 0 true u4 (Nat.zero_add _)
/-- who holds, holds alone -/
def haG (s : Nat → Int32) (c : Nat) (a : Bool) : Bool := a && decide (hoC s c → lkB s (s (315 + 24 * c + 3)) = nI c)
theorem q_ha (S : Sh h) {u1 u2 u3 : Value} : zv 3 227 0 [.ref 211, u1, u2, u3] [] (zQ h q s) = some (some (.int (zi_bI (itF (haG s) 3 0 true))), zQ h q s) := by
  have outer : ∀ d n a (u : Value), n + d = 3 → zv 3 227 4 [.ref 211, .int (zi_bI a), .int (nI n), u] [] (zQ h q s) = some (some (.int (zi_bI (itF (haG s) d n a))), zQ h q s) := by
    intro d
    induction d with
    | zero =>
      intro n a u hn
      have e : n = 3 := by omega
      subst e
      rw [b227_4, if_neg (by decide), b227_69 (bI_01 a)]; rfl
    | succ d ih =>
      intro n a u hn
      have hn3 : n < 3 := by omega
      have e3 : nI n < 3 := nI_lt (b := 3) hn3 (by decide)
      show _ = some (some (Value.int (zi_bI (itF (haG s) d (n + 1) (haG s n a)))), zQ h q s)
      have fin : ∀ (b : Bool) {x3 : Int32}, zv 3 227 62 [.ref 211, .int (zi_bI a), .int (nI n), .int x3] [.int (zi_bI b)] (zQ h q s) = some (some (.int (zi_bI (itF (haG s) d (n + 1) b))), zQ h q s) := fun b {x3} => by rw [b227_62, nI_s, ih _ _ _ (by omega)]
      have f0 : ∀ {x3 : Int32}, zv 3 227 61 [.ref 211, .int (zi_bI a), .int (nI n), .int x3] [] (zQ h q s) = some (some (.int (zi_bI (itF (haG s) d (n + 1) false))), zQ h q s) := fun {x3} => by rw [b227_61]; exact fin false
      have f1 : ∀ {x3 : Int32}, zv 3 227 57 [.ref 211, .int (zi_bI a), .int (nI n), .int x3] [] (zQ h q s) = some (some (.int (zi_bI (itF (haG s) d (n + 1) true))), zQ h q s) := fun {x3} => by rw [b227_57]; exact fin true
      have mid : zv 3 227 9 [.ref 211, .int (zi_bI a), .int (nI n), u] [] (zQ h q s) = zv 3 227 34 [.ref 211, .int (zi_bI a), .int (nI n), u] [.int (zi_bI (decide (hoC s n)))] (zQ h q s) := by
        rw [b227_9 (q_g0 S) (q_g1 S), q_oc0 S hn3]
        simp only [Option.bind_some, Option.toList_some, Option.toList_none, List.cons_append, List.nil_append]
        rw [b227_15]
        by_cases h2 : s (315 + 24 * n) = 2
        · rw [if_pos h2, b227_29, decide_eq_true (show hoC s n from Or.inl h2), zi_bI_t]
        · rw [if_neg h2, b227_19 (q_g0 S) (q_g1 S), q_oc0 S hn3]
          simp only [Option.bind_some, Option.toList_some, Option.toList_none, List.cons_append, List.nil_append]
          rw [b227_25]
          by_cases h4 : s (315 + 24 * n) = 4
          · rw [if_pos h4, b227_29, decide_eq_true (show hoC s n from Or.inr h4), zi_bI_t]
          · rw [if_neg h4, b227_33, decide_eq_false (show ¬ hoC s n from fun w => w.elim h2 h4), zi_bI_f]
      rw [b227_4, if_pos e3, mid, b227_34]
      unfold haG
      cases a with
      | false => rw [zi_bI_f, if_pos rfl, Bool.false_and]; exact f0
      | true =>
        rw [zi_bI_t, if_neg (by decide), Bool.true_and, b227_39]
        by_cases hh : hoC s n
        · rw [decide_eq_true hh, zi_bI_t, if_neg (by decide), b227_43 (q_g0 S) (q_g1 S), q_oc3 S hn3]
          simp only [Option.bind_some, Option.toList_some, Option.toList_none, List.cons_append, List.nil_append]
          rw [b227_50 (q_g0 S) (q_g1 S), q_lk S]
          simp only [Option.bind_some, Option.toList_some, Option.toList_none, List.cons_append, List.nil_append]
          rw [b227_53]
          by_cases hl : lkB s (s (315 + 24 * n + 3)) = nI n
          · rw [if_pos hl, decide_eq_true (fun _ => hl)]; exact f1
          · rw [if_neg hl, decide_eq_false (fun w => hl (w hh))]; exact f0
        · rw [decide_eq_false hh, zi_bI_f, if_pos rfl, decide_eq_true (fun w => absurd w hh)]; exact f1
  rw [b227_0]
  exact outer 3 0 true u3 rfl
/-- a key is looked for from the ROOT -/
theorem q_fo (S : Sh h) (I : InvG s N R M B L m H r K C f) {k : Nat} (hk : k ≤ 99) {u2 : Value} : ∃ b : Bool, zv 3 228 0 [.ref 211, .int (nI k), u2] [] (zQ h q s) = some (some (.int (zi_bI b)), zQ h q s) := by
  obtain ⟨⟨⟨a1, a2, a3⟩, ⟨b1, b2⟩, ⟨d1, d2, d3⟩, G, o, z⟩, -, -⟩ := id I
  have lp : ∀ d n, n < N → N ≤ f n + d → ∃ b : Bool, zv 3 228 9 [.ref 211, .int (nI k), .int (nI n)] [] (zQ h q s) = some (some (.int (zi_bI b)), zQ h q s) := by
    intro d
    induction d with
    | zero => intro n hn hd; have := (G n hn).2.2.2.2.2.2.2.2.2; omega
    | succ d ih =>
      intro n hn hd
      obtain ⟨⟨g1, g2, g3⟩, g4, g5, g6, g7, g8, g9, g10, g11, g12⟩ := G n hn
      have right : (s (13 * n + 4) = 1 ∨ s (13 * n + 2) < nI k) → ∃ b : Bool, zv 3 228 38 [.ref 211, .int (nI k), .int (nI n)] [] (zQ h q s) = some (some (.int (zi_bI b)), zQ h q s) := fun hr => by
        have hR : s (13 * n + 3) = nI (r n) ∧ r n < N ∧ L (r n) = L n ∧ f n < f (r n) := by
          rcases g4 with ⟨q1, q2⟩ | q
          · rcases hr with w | w
            · rcases g5 with w2 | ⟨-, w2, -⟩
              · rw [w2] at w; exact absurd w (by decide)
              · exact absurd q1 w2
            · rw [g3, nI_lt' (by omega) (by omega)] at w
              omega
          · exact q
        have e58 : zv 3 228 58 [.ref 211, .int (nI k), .int (nI n)] [] (zQ h q s) = zv 3 228 9 [.ref 211, .int (nI k), .int (nI (r n))] [] (zQ h q s) := by
          rw [b228_58 (q_g0 S) (q_g1 S), q_of3 S (by omega)]
          simp only [Option.bind_some, Option.toList_some, Option.toList_none, List.cons_append, List.nil_append]
          rw [b228_64, b228_81, hR.1]
        rw [b228_38 (q_g0 S) (q_g1 S), q_of4 S (by omega)]
        simp only [Option.bind_some, Option.toList_some, Option.toList_none, List.cons_append, List.nil_append]
        rw [b228_44]
        by_cases h4 : s (13 * n + 4) = 1
        · rw [if_pos h4, e58]
          exact ih (r n) hR.2.1 (by omega)
        · rw [if_neg h4, b228_48 (q_g0 S) (q_g1 S), q_of2 S (by omega)]
          simp only [Option.bind_some, Option.toList_some, Option.toList_none, List.cons_append, List.nil_append]
          rw [b228_55, if_pos (hr.resolve_left h4), e58]
          exact ih (r n) hR.2.1 (by omega)
      rw [b228_9 (q_g0 S) (q_g1 S), q_of4 S (by omega)]
      simp only [Option.bind_some, Option.toList_some, Option.toList_none, List.cons_append, List.nil_append]
      rw [b228_15]
      by_cases h4 : s (13 * n + 4) = 1
      · rw [if_pos h4]; exact right (Or.inl h4)
      · rw [if_neg h4, b228_19 (q_g0 S) (q_g1 S), q_of2 S (by omega)]
        simp only [Option.bind_some, Option.toList_some, Option.toList_none, List.cons_append, List.nil_append]
        rw [b228_26]
        by_cases h2 : s (13 * n + 2) < nI k
        · rw [if_pos h2]; exact right (Or.inr h2)
        · rw [if_neg h2, b228_29 (q_g0 S) (q_g1 S), q_of0 S (by omega)]
          simp only [Option.bind_some, Option.toList_some, Option.toList_none, List.cons_append, List.nil_append]
          rw [b228_35]
          have hkH : k ≤ H n := by
            rw [g3, nI_lt' (by omega) (by omega)] at h2
            omega
          have ln := I.lv hn
          by_cases hl : 0 < L n
          · obtain ⟨m0, mK, mC, mB⟩ := g8 hl
            obtain ⟨j, j1, j2, j3⟩ := fst_ex (fun i => ¬ s (13 * n + (5 + i)) < nI k) (m n)
            have hj : j < m n := by
              refine Nat.not_le.mp (fun w => ?_)
              have h9 := j2 (m n - 1) (by omega)
              refine h9 ?_
              rw [(g6 (m n - 1) (by omega)).1, nI_lt' (by have := (g6 (m n - 1) (by omega)).2; omega) (by omega), mK]
              omega
            obtain ⟨q1, q2, q3⟩ := mC j hj
            have f9 := o n (C n j) hn q2 (by omega)
            have e9 : (9 : Int32) + nI j = nI (9 + j) := nI_add 9 j
            rw [if_pos (by rw [g1]; exact nI_lt (a := 0) hl (by omega)), b228_38 (q_g0 S) (q_g1 S), q_of4 S (by omega)]
            simp only [Option.bind_some, Option.toList_some, Option.toList_none, List.cons_append, List.nil_append]
            rw [b228_44, if_neg h4, b228_48 (q_g0 S) (q_g1 S), q_of2 S (by omega)]
            simp only [Option.bind_some, Option.toList_some, Option.toList_none, List.cons_append, List.nil_append]
            rw [b228_55, if_neg h2, b228_67 (q_g0 S) (q_g1 S), q_ef S (by omega) (j := j) (by omega) (fun i hi => Decidable.not_not.mp (j2 i hi)) (j3 hj)]
            simp only [Option.bind_some, Option.toList_some, Option.toList_none, List.cons_append, List.nil_append]
            rw [b228_77 (q_g0 S) (q_g1 S), e9, q_of S (by omega) (by omega)]
            simp only [Option.bind_some, Option.toList_some, Option.toList_none, List.cons_append, List.nil_append]
            rw [b228_81, q1]
            exact ih (C n j) q2 (by omega)
          · have h0 : L n = 0 := by omega
            rw [if_neg (by rw [g1, h0]; decide), b228_85 (q_g0 S) (q_g1 S), q_has S (by omega) (show m n ≤ 4 by omega) g2]
            simp only [Option.bind_some, Option.toList_some, Option.toList_none, List.cons_append, List.nil_append]
            rw [b228_91 (bI_01 _)]
            exact ⟨_, rfl⟩
  rw [b228_0 (q_g0 S) (q_g1 S) (by rw [q_r0 S, zq_rf]) (by rw [q_r0 S, zq_rf, zQ_n, S.n]; decide) (by rw [q_r0 S, zq_rf, zQ_k, S.k, kx_212]; decide) (by rw [q_r0 S, zq_rf, zQ_k, S.k, kx_212]), q_r0 S, zq_rf, zQ_212, b1]
  exact lp N R b2 (by omega)
theorem q_af (S : Sh h) (I : InvG s N R M B L m H r K C f) {u1 u2 : Value} : ∃ b : Bool, zv 4 229 0 [.ref 211, u1, u2] [] (zQ h q s) = some (some (.int (zi_bI b)), zQ h q s) := by
  have outer : ∀ d n (a : Bool), n + d = 100 → ∃ b : Bool, zv 4 229 4 [.ref 211, .int (zi_bI a), .int (nI n)] [] (zQ h q s) = some (some (.int (zi_bI b)), zQ h q s) := by
    intro d
    induction d with
    | zero =>
      intro n a hn
      have e : n = 100 := by omega
      subst e
      rw [b229_4, if_pos (by decide), b229_42 (bI_01 a)]
      exact ⟨a, rfl⟩
    | succ d ih =>
      intro n a hn
      have e3 : ¬ 99 < nI n := nI_nlt (a := 99) (by omega) (by decide)
      have fin : ∀ b : Bool, ∃ b' : Bool, zv 4 229 35 [.ref 211, .int (zi_bI a), .int (nI n)] [.int (zi_bI b)] (zQ h q s) = some (some (.int (zi_bI b')), zQ h q s) := fun b => by rw [b229_35, nI_s]; exact ih _ _ (by omega)
      have f0 : ∃ b' : Bool, zv 4 229 34 [.ref 211, .int (zi_bI a), .int (nI n)] [] (zQ h q s) = some (some (.int (zi_bI b')), zQ h q s) := by rw [b229_34]; exact fin false
      have f1 : ∃ b' : Bool, zv 4 229 30 [.ref 211, .int (zi_bI a), .int (nI n)] [] (zQ h q s) = some (some (.int (zi_bI b')), zQ h q s) := by rw [b229_30]; exact fin true
      rw [b229_4, if_neg e3, b229_10]
      by_cases ha : zi_bI a = 0
      · rw [if_pos ha]; exact f0
      · rw [if_neg ha, b229_14 (q_g0 S) (q_g1 S), q_thA S I]
        simp only [Option.bind_some, Option.toList_some, Option.toList_none, List.cons_append, List.nil_append]
        rw [b229_19]
        by_cases ht : zi_bI (thA s (nI n)) = 0
        · rw [if_pos ht]; exact f1
        · obtain ⟨b, eb⟩ := q_fo S (q := q) I (k := n) (by omega) (u2 := .double 0)
          rw [if_neg ht, b229_22 (q_g0 S) (q_g1 S), eb]
          simp only [Option.bind_some, Option.toList_some, Option.toList_none, List.cons_append, List.nil_append]
          rw [b229_27]
          by_cases hb : zi_bI b = 0
          · rw [if_pos hb]; exact f0
          · rw [if_neg hb]; exact f1
  rw [b229_0]
  exact outer 100 0 true rfl
theorem u_check (S : Sh h) (J : Inv s) : ∃ x, zv 5 230 0 [.ref 211] [] (zQ h q s) = some (some (.int x), zQ h q s) := by
  obtain ⟨N, R, M, B, L, m, H, r, K, C, f, I⟩ := id J
  obtain ⟨b6, e6⟩ := q_af S (q := q) I (u1 := .double 0) (u2 := .double 0)
  rw [b230_0 (q_g0 S) (q_g1 S), q_ri S I]
  simp only [Option.bind_some, Option.toList_some, Option.toList_none, List.cons_append, List.nil_append]
  rw [b230_4, if_neg (by decide), b230_9 (q_g0 S) (q_g1 S), q_bh S I]
  simp only [Option.bind_some, Option.toList_some, Option.toList_none, List.cons_append, List.nil_append]
  rw [b230_13]
  by_cases h2 : zi_bI (itF (bhG s) N 0 true) = 0
  · rw [if_pos h2, b230_16]; exact ⟨_, rfl⟩
  · rw [if_neg h2, b230_18 (q_g0 S) (q_g1 S), q_rh S I]
    simp only [Option.bind_some, Option.toList_some, Option.toList_none, List.cons_append, List.nil_append]
    rw [b230_23]
    by_cases h3 : zi_bI (itF (rhG s 0) N 0 true) = 0
    · rw [if_pos h3, b230_26]; exact ⟨_, rfl⟩
    · rw [if_neg h3, b230_28 (q_g0 S) (q_g1 S), q_rh S I]
      simp only [Option.bind_some, Option.toList_some, Option.toList_none, List.cons_append, List.nil_append]
      rw [b230_33]
      by_cases h4 : zi_bI (itF (rhG s 1) N 0 true) = 0
      · rw [if_pos h4, b230_36]; exact ⟨_, rfl⟩
      · rw [if_neg h4, b230_38 (q_g0 S) (q_g1 S), q_ha S]
        simp only [Option.bind_some, Option.toList_some, Option.toList_none, List.cons_append, List.nil_append]
        rw [b230_42]
        by_cases h5 : zi_bI (itF (haG s) 3 0 true) = 0
        · rw [if_pos h5, b230_45, b230_62]; exact ⟨_, rfl⟩
        · rw [if_neg h5, b230_49 (q_g0 S) (q_g1 S), e6]
          simp only [Option.bind_some, Option.toList_some, Option.toList_none, List.cons_append, List.nil_append]
          rw [b230_53]
          by_cases h6 : zi_bI b6 = 0
          · rw [if_pos h6, b230_56, b230_62]; exact ⟨_, rfl⟩
          · rw [if_neg h6, b230_61, b230_62]; exact ⟨_, rfl⟩
/-- leaves (1), entries (0) -/
def cbG (s : Nat → Int32) (x : Int32) (n : Nat) (a : Int32) : Int32 := if (if s (13 * n) = 0 then 1 else 0) = x then a + (if x = 0 then s (13 * n + 1) else 1) else a
theorem q_cbn (S : Sh h) (eN : s 312 = nI N) (hN : N ≤ 24) {x : Int32} {u2 u3 : Value} : zv 2 239 0 [.ref 211, .int x, u2, u3] [] (zQ h q s) = some (some (.int (itF (cbG s x) N 0 0)), zQ h q s) := by
  rw [b239_0]
  refine lpF (F := fun a n => zv 2 239 4 [.ref 211, .int x, .int a, .int n] [] (zQ h q s)) (E := fun a => some (some (.int a), zQ h q s)) (g := cbG s x) (N := N) (fun n a hn => ?_) (fun a => ?_) N 0 0 (Nat.zero_add _)
  · have e3 : nI n < nI N := nI_lt hn (by omega)
    have fin : ∀ t : Int32, (if s (13 * n) = 0 then 1 else 0) = t → zv 2 239 30 [.ref 211, .int x, .int a, .int (nI n)] [.int t] (zQ h q s) = zv 2 239 4 [.ref 211, .int x, .int (cbG s x n a), .int (nI (n + 1))] [] (zQ h q s) := fun t ht => by
      unfold cbG
      rw [ht, b239_30]
      by_cases hx : t = x
      · rw [if_pos hx, if_pos hx, b239_34]
        by_cases h0 : x = 0
        · rw [if_pos h0, if_pos h0, b239_43 (q_g0 S) (q_g1 S), q_of1 S (by omega)]
          simp only [Option.bind_some, Option.toList_some, Option.toList_none, List.cons_append, List.nil_append]
          rw [b239_49, b239_51, nI_s]
        · rw [if_neg h0, if_neg h0, b239_39, b239_49, b239_51, nI_s]
      · rw [if_neg hx, if_neg hx, b239_51, nI_s]
    try dsimp only
    rw [b239_4 (q_g0 S) (q_g1 S) (by rw [q_r0 S, zq_rf]) (by rw [q_r0 S, zq_rf, zQ_n, S.n]; decide) (by rw [q_r0 S, zq_rf, zQ_k, S.k, kx_212]; decide) (by rw [q_r0 S, zq_rf, zQ_k, S.k, kx_212]), q_r0 S, zq_rf, zQ_212, eN, if_pos e3, b239_16 (q_g0 S) (q_g1 S), q_of0 S (by omega)]
    simp only [Option.bind_some, Option.toList_some, Option.toList_none, List.cons_append, List.nil_append]
    rw [b239_22]
    by_cases h0 : s (13 * n) = 0
    · rw [if_pos h0, b239_25]; exact fin 1 (if_pos h0)
    · rw [if_neg h0, b239_29]; exact fin 0 (if_neg h0)
  · try dsimp only
    rw [b239_4 (q_g0 S) (q_g1 S) (by rw [q_r0 S, zq_rf]) (by rw [q_r0 S, zq_rf, zQ_n, S.n]; decide) (by rw [q_r0 S, zq_rf, zQ_k, S.k, kx_212]; decide) (by rw [q_r0 S, zq_rf, zQ_k, S.k, kx_212]), q_r0 S, zq_rf, zQ_212, eN, if_neg Int32.lt_irrefl, b239_57]
end R23E
