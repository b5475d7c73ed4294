/-! THE CLASS reads tokens as the pure lexer does -/
section R34K
variable {h : zi_Hp} {a p A K F : Nat → Int32} {b : Bool} {t n : Nat}
theorem up_up {s : Nat → Int32} {k : Nat} {v w : Int32} : up (up s k v) k w = up s k w := by
  funext j
  unfold up
  by_cases q : j = k
  · rw [if_pos q, if_pos q]
  · rw [if_neg q, if_neg q, if_neg q]
theorem x_by (S : Sh h) (T : TJ a t n) (hn : n < t) : zv 1 33 0 [.ref 197, .int (nI n)] [] (zS h a p A K F b) = some (some (.int (zh_i h 198 n)), zS h a p A K F b) := by
  have ht := T.1
  rw [b33_0, if_neg (nI_pos (by omega)), b33_4 (s_g0 S) (s_g1 S), zS_7, T.2.1, if_pos (nI_lt hn (by omega)), b33_12, if_pos (show nI n < 160 from nI_lt (b := 160) (by omega) (by decide)), b33_19 (s_g0 S) (s_g1 S) (by rw [zS_r, S.r, rx_197_0, zq_rf]) (by rw [zS_r, S.r, rx_197_0, zq_rf, zS_n, S.n]; decide) (by rw [zS_r, S.r, rx_197_0, zq_rf, zS_k, S.k, kx_198]; exact zj_n (by omega) (by decide)) (by rw [zS_r, S.r, rx_197_0, zq_rf, zS_k, S.k, kx_198]), b33_30, zS_r, S.r, rx_197_0, zq_rf, nI_clamp (by omega), zS_8]
theorem x_le {c : Int32} : zv 1 34 0 [.int c] [] h = some (some (.int (zi_bI (isL c))), h) := by
  unfold isL
  rw [b34_0]
  by_cases h0 : c < 97
  · rw [if_pos h0, b34_16, b34_17 (Or.inl rfl), decide_eq_false (fun q => q.1 h0)]; rfl
  · rw [if_neg h0, b34_6]
    by_cases h1 : 122 < c
    · rw [if_pos h1, b34_16, b34_17 (Or.inl rfl), decide_eq_false (fun q => q.2 h1)]; rfl
    · rw [if_neg h1, b34_12, b34_17 (Or.inr rfl), decide_eq_true ⟨h0, h1⟩]; rfl
theorem x_bl (S : Sh h) {u : Value} : ∀ d n a, n + d = t → TJ a t n → zv 3 30 0 [.ref 197, u] [] (zS h a p A K F b) = zv 3 30 37 [.ref 197, u] [] (zS h (up a 5 (nI (lR (zh_i h 198) t isB d n))) p A K F b)
  | 0, n, a, hn, T => by
    have e : n = t := by omega
    subst e
    rw [b30_0 (s_g0 S) (s_g1 S), zS_7, zS_7, T.2.1, T.2.2.2, if_neg Int32.lt_irrefl]
    unfold lR
    rw [up_id a 5 T.2.2.2.symm]
  | d + 1, n, a, hn, T => by
    have ht := T.1
    rw [b30_0 (s_g0 S) (s_g1 S), zS_7, zS_7, T.2.1, T.2.2.2, if_pos (nI_lt (by omega) (by omega)), b30_11 (s_g0 S) (s_g1 S), zS_7, T.2.2.2, x_by S T (by omega)]
    simp only [Option.bind_some, Option.toList_some, Option.toList_none, List.cons_append, List.nil_append]
    rw [b30_19]
    unfold lR isB
    by_cases q : zh_i h 198 n = 32
    · rw [if_pos q, if_pos ⟨by omega, decide_eq_true q⟩, b30_24 (s_g0 S) (s_g1 S), zS_7, T.2.2.2, nI_s, zS_w7, x_bl S d (n + 1) _ (by omega) (T.nx (by omega)), up_up]; rfl
    · rw [if_neg q, if_neg (fun w => q (of_decide_eq_true w.2)), up_id a 5 T.2.2.2.symm]
theorem x_lt (S : Sh h) {c : Int32} : ∀ d n a, n + d = t → TJ a t n → zv 3 30 85 [.ref 197, .int c] [] (zS h a p A K F b) = some (none, zS h (up a 5 (nI (lR (zh_i h 198) t isL d n))) p A K F b)
  | 0, n, a, hn, T => by
    have e : n = t := by omega
    subst e
    rw [b30_85 (s_g0 S) (s_g1 S), zS_7, zS_7, T.2.1, T.2.2.2, if_neg Int32.lt_irrefl, s_end S]
    unfold lR
    rw [up_id a 5 T.2.2.2.symm]
  | d + 1, n, a, hn, T => by
    have ht := T.1
    rw [b30_85 (s_g0 S) (s_g1 S), zS_7, zS_7, T.2.1, T.2.2.2, if_pos (nI_lt (by omega) (by omega)), b30_96 (s_g0 S) (s_g1 S), zS_7, T.2.2.2, x_by S T (by omega)]
    simp only [Option.bind_some, Option.toList_some, Option.toList_none, List.cons_append, List.nil_append]
    rw [b30_104, x_le]
    simp only [Option.bind_some, Option.toList_some, Option.toList_none, List.cons_append, List.nil_append]
    rw [b30_107]
    unfold lR
    cases q : isL (zh_i h 198 n) with
    | true => rw [zi_bI_t, if_neg (by decide), if_pos ⟨by omega, rfl⟩, b30_110 (s_g0 S) (s_g1 S), zS_7, T.2.2.2, nI_s, zS_w7, x_lt S d (n + 1) _ (by omega) (T.nx (by omega)), up_up]
    | false => rw [zi_bI_f, if_pos rfl, if_neg (fun w => absurd w.2 (by decide)), s_end S, up_id a 5 T.2.2.2.symm]
theorem x_fg (S : Sh h) {st : Nat} : ∀ d n a, n + d = t → TJ a t n → st ≤ n → a 4 = lVv (zh_i h 198) st (n - st) → zv 2 31 5 [.ref 197] [] (zS h a p A K F b) = zv 2 31 66 [.ref 197] [] (zS h (up (up a 4 (lVv (zh_i h 198) st (lR (zh_i h 198) t isF d n - st))) 5 (nI (lR (zh_i h 198) t isF d n))) p A K F b)
  | 0, n, a, hn, T, hs, e4 => by
    have e : n = t := by omega
    subst e
    rw [b31_5 (s_g0 S) (s_g1 S), zS_7, zS_7, T.2.1, T.2.2.2, if_neg Int32.lt_irrefl]
    unfold lR
    rw [up_id a 4 e4.symm, up_id a 5 T.2.2.2.symm]
  | d + 1, n, a, hn, T, hs, e4 => by
    have ht := T.1
    have ev := x_by S T (p := p) (A := A) (K := K) (F := F) (b := b) (by omega)
    rw [b31_5 (s_g0 S) (s_g1 S), zS_7, zS_7, T.2.1, T.2.2.2, if_pos (nI_lt (by omega) (by omega)), b31_16 (s_g0 S) (s_g1 S), zS_7, T.2.2.2, ev]
    simp only [Option.bind_some, Option.toList_some, Option.toList_none, List.cons_append, List.nil_append]
    rw [b31_24, s_fi]
    simp only [Option.bind_some, Option.toList_some, Option.toList_none, List.cons_append, List.nil_append]
    rw [b31_27]
    unfold lR isF
    by_cases q : ¬ zh_i h 198 n < 48 ∧ ¬ 57 < zh_i h 198 n
    · rw [decide_eq_true q, zi_bI_t, if_neg (by decide), if_pos ⟨by omega, rfl⟩, b31_30 (s_g0 S) (s_g1 S), zS_7, zS_7, T.2.2.2, ev]
      simp only [Option.bind_some, Option.toList_some, Option.toList_none, List.cons_append, List.nil_append]
      have T1 : TJ (up (up a 4 (a 4 * 10 + zh_i h 198 n - 48)) 5 (nI (n + 1))) t (n + 1) := (T.u1 (k := 4) (by decide) (by decide)).nx (by omega)
      rw [b31_46 (s_g0 S) (s_g1 S), zS_w7, b31_55 (s_g0 S) (s_g1 S) (s_g0 S) (s_g1 S), zS_7, up_n _ _ (by decide), T.2.2.2, nI_s, zS_w7, x_fg S (st := st) d (n + 1) _ (by omega) T1 (by omega) (by
        rw [up_n _ _ (by decide), up_s, e4, show n + 1 - st = (n - st) + 1 by omega]
        show _ = lVv (zh_i h 198) st (n - st) * 10 + zh_i h 198 (st + (n - st)) - 48
        rw [show st + (n - st) = n by omega])]
      have eu : ∀ (v1 v2 v3 v4 : Int32), up (up (up (up a 4 v1) 5 v2) 4 v3) 5 v4 = up (up a 4 v3) 5 v4 := fun v1 v2 v3 v4 => by
        funext j
        unfold up
        by_cases q5 : j = 5
        · simp only [if_pos q5]
        · by_cases q4 : j = 4
          · simp only [if_neg q5, if_pos q4]
          · simp only [if_neg q5, if_neg q4]
      rw [eu]; rfl
    · rw [decide_eq_false q, zi_bI_f, if_pos rfl, if_neg (fun w => absurd w.2 (by decide)), up_id a 4 e4.symm, up_id a 5 T.2.2.2.symm]
theorem x_tok (S : Sh h) (T : TJ a t n) (hS : lS (zh_i h 198) t n = n) {u : Value} : ∃ a', zv 3 30 37 [.ref 197, u] [] (zS h a p A K F b) = some (none, zS h a' p A K F b) ∧ TJ a' t (lX (zh_i h 198) t n) ∧ a' 2 = nI (lK (zh_i h 198) t n) ∧ a' 3 = nI n ∧ (lK (zh_i h 198) t n = 3 → a' 4 = lVv (zh_i h 198) n (lX (zh_i h 198) t n - n)) := by
  have ht := T.1
  have hn := T.2.2.1
  obtain ⟨a1, ea1⟩ : ∃ a1, a1 = up a 3 (nI n) := ⟨_, rfl⟩
  have T1 : TJ a1 t n := by rw [ea1]; exact T.u1 (by decide) (by decide)
  have e3 : a1 3 = nI n := by rw [ea1, up_s]
  have go : ∃ v, zv 3 30 37 [.ref 197, u] [] (zS h a p A K F b) = (if nI n < nI t then zv 3 30 73 [.ref 197, .int v] [] (zS h a1 p A K F b) else zv 3 30 65 [.ref 197, .int v] [] (zS h a1 p A K F b)) ∧ (n < t → v = zh_i h 198 n) := by
    by_cases hnt : n < t
    · have ev := x_by S T1 (p := p) (A := A) (K := K) (F := F) (b := b) hnt
      refine ⟨_, ?_, fun _ => rfl⟩
      rw [b30_37 (s_g0 S) (s_g1 S), zS_7, T.2.2.2, zS_w7, ← ea1, b30_47 (s_g0 S) (s_g1 S) (s_g0 S) (s_g1 S), zS_7, e3, ev]
      simp only [Option.bind_some, Option.toList_some, Option.toList_none, List.cons_append, List.nil_append]
      rw [b30_53 (s_g0 S) (s_g1 S), zS_7, zS_7, e3, T1.2.1]
    · obtain ⟨v, ev⟩ := s_by S (a := a1) (p := p) (A := A) (K := K) (F := F) (b := b) (nI n)
      refine ⟨v, ?_, fun w => absurd w hnt⟩
      rw [b30_37 (s_g0 S) (s_g1 S), zS_7, T.2.2.2, zS_w7, ← ea1, b30_47 (s_g0 S) (s_g1 S) (s_g0 S) (s_g1 S), zS_7, e3, ev]
      simp only [Option.bind_some, Option.toList_some, Option.toList_none, List.cons_append, List.nil_append]
      rw [b30_53 (s_g0 S) (s_g1 S), zS_7, zS_7, e3, T1.2.1]
  obtain ⟨v, go, ev⟩ := go
  by_cases hnt : n < t
  · obtain rfl := ev hnt
    rw [if_pos (nI_lt hnt (by omega)), b30_73, x_le] at go
    simp only [Option.bind_some, Option.toList_some, Option.toList_none, List.cons_append, List.nil_append] at go
    rw [b30_77] at go
    have hs : lS (zh_i h 198) t n < t := by rw [hS]; exact hnt
    cases h1 : isL (zh_i h 198 n) with
    | true =>
      obtain ⟨k1, k2⟩ := lK_name hs (by rw [hS]; exact h1)
      rw [hS] at k2
      rw [h1, zi_bI_t, if_neg (by decide), b30_80 (s_g0 S) (s_g1 S), zS_w7, x_lt S (t - n) n (up a1 2 2) (by omega) (T1.u1 (by decide) (by decide)), ← k2] at go
      refine ⟨_, go, ?_, ?_, ?_, fun w => by rw [k1] at w; omega⟩
      · exact (T1.u1 (by decide) (by decide)).nx (lX_le hn)
      · rw [up_n _ _ (by decide), up_s, k1]; rfl
      · rw [up_n _ _ (by decide), up_n _ _ (by decide), e3]
    | false =>
      rw [h1, zi_bI_f, if_pos rfl, b30_123, s_fi] at go
      simp only [Option.bind_some, Option.toList_some, Option.toList_none, List.cons_append, List.nil_append] at go
      rw [b30_127] at go
      cases h2 : isF (zh_i h 198 n) with
      | true =>
        obtain ⟨k1, k2⟩ := lK_num hs (by rw [hS]; exact h1) (by rw [hS]; exact h2)
        rw [hS] at k1 k2
        have h2' : ¬ zh_i h 198 n < 48 ∧ ¬ 57 < zh_i h 198 n := by unfold isF at h2; exact of_decide_eq_true h2
        have T2 : TJ (up a1 4 0) t n := T1.u1 (by decide) (by decide)
        have hx : n ≤ lX (zh_i h 198) t n := by have := lX_ge (B := zh_i h 198) (t := t) (n := n); omega
        have hxt := lX_le (B := zh_i h 198) hn
        have e31 := x_fg S (p := p) (A := A) (K := K) (F := F) (b := b) (st := n) (t - n) n (up a1 4 0) (by omega) T2 (Nat.le_refl _) (by rw [up_s, Nat.sub_self]; rfl)
        rw [← k2] at e31
        obtain ⟨a2, ea2⟩ : ∃ a2, a2 = up (up (up a1 4 0) 4 (lVv (zh_i h 198) n (lX (zh_i h 198) t n - n))) 5 (nI (lX (zh_i h 198) t n)) := ⟨_, rfl⟩
        rw [← ea2] at e31
        have T3 : TJ a2 t (lX (zh_i h 198) t n) := by rw [ea2]; exact (T2.u1 (by decide) (by decide)).nx hxt
        have a23 : a2 3 = nI n := by rw [ea2, up_n _ _ (by decide), up_n _ _ (by decide), up_n _ _ (by decide), e3]
        have a24 : a2 4 = lVv (zh_i h 198) n (lX (zh_i h 198) t n - n) := by rw [ea2, up_n _ _ (by decide), up_s]
        have c31 : zv 2 31 0 [.ref 197] [] (zS h a1 p A K F b) = some (none, zS h (up a2 2 (nI (lK (zh_i h 198) t n))) p A K F b) := by
          rw [b31_0 (s_g0 S) (s_g1 S), zS_w7, e31, b31_66 (s_g0 S) (s_g1 S), zS_7, zS_7, T3.2.2.2, a23, nI_sub hx, k1]
          by_cases q : lX (zh_i h 198) t n - n ≤ 2
          · rw [if_neg (by rw [show (2 : Int32) = nI 2 from rfl, nI_lt' (by omega) (by omega)]; omega), if_pos q, b31_84, b31_85 (s_g0 S) (s_g1 S), zS_w7]; rfl
          · rw [if_pos (by rw [show (2 : Int32) = nI 2 from rfl, nI_lt' (by omega) (by omega)]; omega), if_neg q, b31_80, b31_85 (s_g0 S) (s_g1 S), zS_w7]; rfl
        rw [decide_eq_true h2', zi_bI_t, if_neg (by decide), b30_130 (s_g0 S) (s_g1 S), c31] at go
        simp only [Option.bind_some, Option.toList_some, Option.toList_none, List.cons_append, List.nil_append] at go
        rw [b30_134, s_end S] at go
        refine ⟨_, go, T3.u1 (by decide) (by decide), up_s _ _ _, ?_, fun _ => ?_⟩
        · rw [up_n _ _ (by decide), a23]
        · rw [up_n _ _ (by decide), a24]
      | false =>
        obtain ⟨k1, k2⟩ := lK_oth hs (by rw [hS]; exact h1) (by rw [hS]; exact h2)
        rw [hS] at k1 k2
        have h2' : ¬ (¬ zh_i h 198 n < 48 ∧ ¬ 57 < zh_i h 198 n) := by unfold isF at h2; exact of_decide_eq_false h2
        have fin : ∀ w : Int32, zv 3 30 149 [.ref 197, .int (zh_i h 198 n)] [.int w, .ref 197] (zS h a1 p A K F b) = some (none, zS h (up (up a1 2 w) 5 (nI (n + 1))) p A K F b) := fun w => by
          rw [b30_149 (s_g0 S) (s_g1 S), zS_w7, b30_154 (s_g0 S) (s_g1 S) (s_g0 S) (s_g1 S), zS_7, up_n _ _ (by decide), T1.2.2.2, nI_s, zS_w7, s_end S]
        have f2 : zv 3 30 37 [.ref 197, u] [] (zS h a p A K F b) = some (none, zS h (up (up a1 2 (nI (lK (zh_i h 198) t n))) 5 (nI (n + 1))) p A K F b) := by
          rw [go, decide_eq_false h2', zi_bI_f, if_pos rfl, b30_137, k1]
          by_cases q9 : zh_i h 198 n = 59
          · rw [if_pos q9, if_pos q9, b30_144, fin]; rfl
          · rw [if_neg q9, if_neg q9, b30_148, fin]; rfl
        refine ⟨_, f2, ?_, ?_, ?_, fun w => by rw [k1] at w; split at w <;> omega⟩
        · rw [k2]; exact (T1.u1 (by decide) (by decide)).nx (by omega)
        · rw [up_n _ _ (by decide), up_s]
        · rw [up_n _ _ (by decide), up_n _ _ (by decide), e3]
  · have hs : t ≤ lS (zh_i h 198) t n := by rw [hS]; omega
    obtain ⟨k1, k2⟩ := lK_end hs
    rw [hS] at k2
    rw [if_neg (fun w => hnt (by rw [nI_lt' (by omega) (by omega)] at w; exact w)), b30_65 (s_g0 S) (s_g1 S), zS_w7, s_end S] at go
    refine ⟨_, go, ?_, ?_, ?_, fun w => by rw [k1] at w; omega⟩
    · rw [k2]; exact T1.u1 (by decide) (by decide)
    · rw [up_s, k1]; rfl
    · rw [up_n _ _ (by decide), e3]
/-- the class reads the token behind n -/
theorem x_sc (S : Sh h) (T : TJ a t n) {u : Value} : ∃ a', zv 3 30 0 [.ref 197, u] [] (zS h a p A K F b) = some (none, zS h a' p A K F b) ∧ TA (zh_i h 198) a' t n := by
  have hn := T.2.2.1
  have hst : lS (zh_i h 198) t n ≤ t := lS_le hn
  have T1 : TJ (up a 5 (nI (lS (zh_i h 198) t n))) t (lS (zh_i h 198) t n) := T.nx hst
  have hS2 : lS (zh_i h 198) t (lS (zh_i h 198) t n) = lS (zh_i h 198) t n := by
    have o := lR_out (B := zh_i h 198) (t := t) (g := isB) (t - n) n (by omega)
    show lR (zh_i h 198) t isB (t - lS (zh_i h 198) t n) (lS (zh_i h 198) t n) = _
    have o' : ¬ (lS (zh_i h 198) t n < t ∧ isB (zh_i h 198 (lS (zh_i h 198) t n)) = true) := o
    generalize t - lS (zh_i h 198) t n = d
    cases d with
    | zero => rfl
    | succ d => unfold lR; rw [if_neg o']
  have hX2 : lX (zh_i h 198) t (lS (zh_i h 198) t n) = lX (zh_i h 198) t n := by unfold lX; rw [hS2]
  have hK2 : lK (zh_i h 198) t (lS (zh_i h 198) t n) = lK (zh_i h 198) t n := by unfold lK; rw [hS2]
  obtain ⟨a', e, T', k2, k3, k4⟩ := x_tok S (p := p) (A := A) (K := K) (F := F) (b := b) T1 hS2 (u := u)
  rw [hX2] at T' k4
  rw [hK2] at k2 k4
  exact ⟨a', by rw [x_bl S (t - n) n a (by omega) T]; exact e, T', k2, k3, k4⟩
end R34K
