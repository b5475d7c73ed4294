/-! BOTH SIDES: lines of a text -/
/-- what both have been told so far is alike -/
def DT (p A K F : Nat → Int32) (b : Bool) (w T Fd : Nat → Int32) (bR : Bool) : Prop :=
  bR = b ∧ (∃ v, 2 ≤ v ∧ v ≤ 4 ∧ p 1 = nI v ∧ w 16 = nI v) ∧ (∃ m, m ≤ 40 ∧ p 2 = nI m ∧ w 18 = nI m ∧ ∀ i, i < m → (∃ a, a ≤ 2 ∧ A i = nI a ∧ T (2 * i) = nI a) ∧ ∃ q, q ≤ 99 ∧ K i = nI q ∧ T (2 * i + 1) = nI q) ∧ (∃ fm, fm ≤ 3 ∧ w 20 = nI fm ∧ (∀ k, k < fm → ∃ c q, c < 3 ∧ q ≤ 99 ∧ Fd (2 * k) = nI c ∧ Fd (2 * k + 1) = nI q ∧ F c = nI q) ∧ (∀ c, c < 3 → F c < 0 ∨ ∃ k, k < fm ∧ Fd (2 * k) = nI c) ∧ ∀ i j, i < j → j < fm → ¬ Fd (2 * i) = Fd (2 * j)) ∧ p 3 = 0
/-- what a line leaves: both refuse at one place, or both have read one token more -/
def BO (h h1 : zi_Hp) (t n : Nat) (p0 : Int32) (oc oo : Option zi_Rt) : Prop :=
  (∃ z, CB h oc z ∧ ∃ w' T' Fd' bR', oo = some (none, zP h1 w' T' Fd' bR') ∧ Bd w' z)
  ∨ (∃ a' p' A' K' F' b' w' T' Fd' bR' n', oc = some (some (.int 1), zS h a' p' A' K' F' b') ∧ oo = some (none, zP h1 w' T' Fd' bR') ∧ TJ a' t n' ∧ TW (zh_i h 198) w' t n' ∧ DT p' A' K' F' b' w' T' Fd' bR' ∧ n < n' ∧ n' ≤ t ∧ p' 0 = p0)
section R34N
variable {h h1 : zi_Hp} {a p A K F w T Fd : Nat → Int32} {b bR : Bool} {t n : Nat}
theorem TW.same {w' : Nat → Int32} (W : TW (zh_i h 198) w t n) (e : ∀ j, 9 ≤ j → j ≤ 14 → w' j = w j) : TW (zh_i h 198) w' t n := by
  obtain ⟨w9, w10, w0, wk, w3⟩ := W
  exact ⟨(e 9 (by decide) (by decide)).trans w9, (e 10 (by decide) (by decide)).trans w10, fun z => ⟨(e 13 (by decide) (by decide)).trans (w0 z).1, (e 14 (by decide) (by decide)).trans (w0 z).2⟩, fun z => ⟨(e 13 (by decide) (by decide)).trans (wk z).1, (e 11 (by decide) (by decide)).trans (wk z).2⟩, fun z => (e 12 (by decide) (by decide)).trans (w3 z)⟩
theorem Bd.same {w' : Nat → Int32} {z : Nat} (D : Bd w z) (e : ∀ j, 13 ≤ j → j ≤ 14 → w' j = w j) : Bd w' z := ⟨by rw [e 13 (by decide) (by decide)]; exact D.1, by rw [e 14 (by decide) (by decide)]; exact D.2⟩
theorem DT.wh {w' : Nat → Int32} (D : DT p A K F b w T Fd bR) (e : ∀ j, 14 < j → w' j = w j) : DT p A K F b w' T Fd bR := by
  obtain ⟨d1, d2, d3, d4, d5⟩ := D
  unfold DT
  rw [e 16 (by decide), e 18 (by decide), e 20 (by decide)]
  exact ⟨d1, d2, d3, d4, d5⟩
/-- the end of a line -/
theorem y_tlB (S1 : Sh h1) {z : Nat} (D : Bd w z) {x : Int32} : zv 5 191 121 [.ref 211, .int x] [] (zP h1 w T Fd bR) = some (none, zP h1 w T Fd bR) := by
  rw [b191_121 (p_g0 S1) (p_g1 S1), zP_w (by decide) (by decide), if_neg D.z, b191_146 (p_g0 S1) (p_g1 S1), y_rdF S1 D.1]
  simp only [Option.bind_some, Option.toList_some, Option.toList_none, List.cons_append, List.nil_append]
  rw [b191_150]
theorem y_tl (S1 : Sh h1) (Q : BT (zh_i h 198) h1 t) (hn : n ≤ t) (W : TW (zh_i h 198) w t n) {x : Int32} : (lK (zh_i h 198) t n = 4 ∧ ∃ w', zv 5 191 121 [.ref 211, .int x] [] (zP h1 w T Fd bR) = some (none, zP h1 w' T Fd bR) ∧ TW (zh_i h 198) w' t (lX (zh_i h 198) t n) ∧ ∀ j, 14 < j → w' j = w j) ∨ (¬ lK (zh_i h 198) t n = 4 ∧ ∃ w', zv 5 191 121 [.ref 211, .int x] [] (zP h1 w T Fd bR) = some (none, zP h1 w' T Fd bR) ∧ Bd w' (lS (zh_i h 198) t n)) := by
  obtain ⟨w9, w10, w0, wk, w3⟩ := id W
  by_cases q0 : lK (zh_i h 198) t n = 0
  · exact Or.inr ⟨by omega, w, y_tlB S1 (W.bd q0), W.bd q0⟩
  · obtain ⟨w13, w11⟩ := wk q0
    have hK := lK_le (B := zh_i h 198) (t := t) (n := n)
    by_cases q4 : lK (zh_i h 198) t n = 4
    · obtain ⟨w', e', W', hh⟩ := y_rd S1 Q (w := w) (T := T) (F := Fd) (b := bR) (n := lX (zh_i h 198) t n) (lX_le hn) w9 w13 (u := .double 0)
      refine Or.inl ⟨q4, w', ?_, W', hh⟩
      rw [b191_121 (p_g0 S1) (p_g1 S1), zP_w (by decide) (by decide), if_pos w13, b191_128 (p_g0 S1) (p_g1 S1), zP_w (by decide) (by decide), w11, q4, if_pos (show nI (4 - 1) = 3 from rfl), b191_137, b191_142 (p_g0 S1) (p_g1 S1), p_rq S1, rq_1]
      simp only [Option.bind_some, Option.toList_some, Option.toList_none, List.cons_append, List.nil_append]
      rw [b191_146 (p_g0 S1) (p_g1 S1), e']
      simp only [Option.bind_some, Option.toList_some, Option.toList_none, List.cons_append, List.nil_append]
      rw [b191_150]
    · have D := W.rq q0 (c := 2) (by decide) (by decide)
      refine Or.inr ⟨q4, _, ?_, D⟩
      rw [b191_121 (p_g0 S1) (p_g1 S1), zP_w (by decide) (by decide), if_pos w13, b191_128 (p_g0 S1) (p_g1 S1), zP_w (by decide) (by decide), w11, if_neg (show ¬ nI (lK (zh_i h 198) t n - 1) = 3 from fun z => q4 (by have := (nI_eq' (b := 3) (by omega) (by decide)).mp z; omega)), b191_141, b191_142 (p_g0 S1) (p_g1 S1), p_rq S1]
      simp only [Option.bind_some, Option.toList_some, Option.toList_none, List.cons_append, List.nil_append]
      have D' : Bd (rqF w 0 2) (lS (zh_i h 198) t n) := D
      rw [b191_146 (p_g0 S1) (p_g1 S1), y_rdF S1 D'.1]
      simp only [Option.bind_some, Option.toList_some, Option.toList_none, List.cons_append, List.nil_append]
      rw [b191_150]; rfl
/-- the beginning of a line, behind its word -/
theorem y_pre (S1 : Sh h1) (x : Int32) {u : Value} : zv 5 191 17 [.ref 211, u] [.int x] (zP h1 w T Fd bR) = (zv 2 186 0 [.ref 211, .double 0] [] (zP h1 (rqF (rqF w (if x = -4 then 0 else 1) 2) (if x = 0 ∧ bR = true then 0 else 1) 4) T Fd (bR || decide (x = 0)))).bind fun r => zv 5 191 79 [.ref 211, .int x] (r.1.toList ++ []) r.2 := by
  have f72 : ∀ (w : Nat → Int32) (c : Bool), zv 5 191 72 [.ref 211, .int x] [.int (zi_bI c), .ref 211] (zP h1 w T Fd bR) = (zv 2 186 0 [.ref 211, .double 0] [] (zP h1 w T Fd c)).bind fun r => zv 5 191 79 [.ref 211, .int x] (r.1.toList ++ []) r.2 := fun w c => by
    rw [b191_72 (p_g0 S1) (p_g1 S1) (bI_01 c) (p_g0 S1) (p_g1 S1), zP_wb]
    cases c <;> rfl
  have f55 : ∀ (w : Nat → Int32), zv 5 191 55 [.ref 211, .int x] [] (zP h1 w T Fd bR) = (zv 2 186 0 [.ref 211, .double 0] [] (zP h1 w T Fd (bR || decide (x = 0)))).bind fun r => zv 5 191 79 [.ref 211, .int x] (r.1.toList ++ []) r.2 := fun w => by
    rw [b191_55 (p_g0 S1) (p_g1 S1), zP_b]
    cases bR with
    | true => rw [zi_bI_t, if_neg (by decide), b191_67]; exact f72 w true
    | false =>
      rw [zi_bI_f, if_pos rfl, b191_63]
      by_cases q : x = 0
      · rw [if_pos q, b191_67, decide_eq_true q]; exact f72 w true
      · rw [if_neg q, b191_71, decide_eq_false q]; exact f72 w false
  have f34 : ∀ (w : Nat → Int32), zv 5 191 34 [.ref 211, .int x] [] (zP h1 w T Fd bR) = zv 5 191 55 [.ref 211, .int x] [] (zP h1 (rqF w (if x = 0 ∧ bR = true then 0 else 1) 4) T Fd bR) := fun w => by
    have f51 : ∀ g : Int32, zv 5 191 51 [.ref 211, .int x] [.int g, .ref 211] (zP h1 w T Fd bR) = zv 5 191 55 [.ref 211, .int x] [] (zP h1 (rqF w g 4) T Fd bR) := fun g => by
      rw [b191_51 (p_g0 S1) (p_g1 S1), p_rq S1]
      simp only [Option.bind_some, Option.toList_some, Option.toList_none, List.cons_append, List.nil_append]
    rw [b191_34]
    by_cases q : x = 0
    · rw [if_pos q, b191_39 (p_g0 S1) (p_g1 S1), zP_b]
      cases bR with
      | true => rw [zi_bI_t, if_neg (by decide), b191_50, f51, if_pos ⟨q, rfl⟩]
      | false => rw [zi_bI_f, if_pos rfl, b191_46, f51, if_neg (fun z => absurd z.2 (by decide))]
    · rw [if_neg q, b191_46, f51, if_neg (fun z => q z.1)]
  have f30 : ∀ g : Int32, zv 5 191 30 [.ref 211, .int x] [.int g, .ref 211] (zP h1 w T Fd bR) = zv 5 191 34 [.ref 211, .int x] [] (zP h1 (rqF w g 2) T Fd bR) := fun g => by
    rw [b191_30 (p_g0 S1) (p_g1 S1), p_rq S1]
    simp only [Option.bind_some, Option.toList_some, Option.toList_none, List.cons_append, List.nil_append]
  rw [b191_17]
  by_cases q : x = -4
  · rw [if_pos q, b191_29, f30, f34, f55, if_pos q]
  · rw [if_neg q, b191_25, f30, f34, f55, if_neg q]
/-- the reference reads on behind a line's word -/
theorem y_pr2 (S1 : Sh h1) (Q : BT (zh_i h 198) h1 t) (hn : n ≤ t) (W : TW (zh_i h 198) w t n) (hk : ¬ lK (zh_i h 198) t n = 0) {x : Int32} (hx : ¬ x = -4) (h0 : ¬ (x = 0 ∧ bR = true)) {u : Value} : ∃ w', TW (zh_i h 198) w' t (lX (zh_i h 198) t n) ∧ (∀ j, 14 < j → w' j = w j) ∧ ((lK (zh_i h 198) t (lX (zh_i h 198) t n) = 0 ∧ zv 5 191 17 [.ref 211, u] [.int x] (zP h1 w T Fd bR) = some (none, zP h1 w' T Fd (bR || decide (x = 0)))) ∨ (¬ lK (zh_i h 198) t (lX (zh_i h 198) t n) = 0 ∧ zv 5 191 17 [.ref 211, u] [.int x] (zP h1 w T Fd bR) = zv 5 191 87 [.ref 211, .int x] [] (zP h1 w' T Fd (bR || decide (x = 0))))) := by
  obtain ⟨w9, w10, w0, wk, w3⟩ := id W
  obtain ⟨w13, w11⟩ := wk hk
  obtain ⟨w', e', W', hh⟩ := y_rd S1 Q (w := w) (T := T) (F := Fd) (b := bR || decide (x = 0)) (n := lX (zh_i h 198) t n) (lX_le hn) w9 w13 (u := .double 0)
  have go : zv 5 191 17 [.ref 211, u] [.int x] (zP h1 w T Fd bR) = if 0 < w' 13 then some (none, zP h1 w' T Fd (bR || decide (x = 0))) else zv 5 191 87 [.ref 211, .int x] [] (zP h1 w' T Fd (bR || decide (x = 0))) := by
    rw [y_pre S1, if_neg hx, if_neg h0, rq_1, rq_1, e']
    simp only [Option.bind_some, Option.toList_some, Option.toList_none, List.cons_append, List.nil_append]
    rw [b191_79 (p_g0 S1) (p_g1 S1), zP_w (by decide) (by decide), b191_86]
  refine ⟨w', W', hh, ?_⟩
  by_cases q : lK (zh_i h 198) t (lX (zh_i h 198) t n) = 0
  · exact Or.inl ⟨q, by rw [go, if_pos (W'.bd q).1]⟩
  · exact Or.inr ⟨q, by rw [go, (W'.2.2.2.1 q).1, if_neg (by decide)]⟩
theorem j_room1 (S : Sh h) (S1 : Sh h1) (Q : BT (zh_i h 198) h1 t) (hn : n ≤ t) (E : TA (zh_i h 198) a t n) (W : TW (zh_i h 198) w t n) (hk : lK (zh_i h 198) t n = 2) (D : DT p A K F b w T Fd bR) {u : Value} : BO h h1 t n (p 0) (zv 5 15 0 [.ref 199, .ref 197] [] (zS h a p A K F b)) (zv 5 191 17 [.ref 211, u] [.int 0] (zP h1 w T Fd bR)) := by
  obtain ⟨eb, d2, d3, d4, d5⟩ := id D
  subst eb
  have hx1 := lX_le (B := zh_i h 198) hn
  have gt1 := (lX_gt (B := zh_i h 198) (t := t) (n := n) (by omega)).1
  have ge1 := lS_ge (B := zh_i h 198) (t := t) (n := n)
  rw [b15_0 (s_g2 S) (s_g3 S), zS_b]
  cases bR with
  | true =>
    obtain ⟨e1, c1⟩ := CB.re S E (p := p) (A := A) (K := K) (F := F) (b := true) (c := 4) (by decide) (by decide)
    have D4 : Bd (rqF w 0 4) (lS (zh_i h 198) t n) := W.rq (by omega) (c := 4) (by decide) (by decide)
    refine Or.inl ⟨lS (zh_i h 198) t n, ?_, rqF w 0 4, T, Fd, true || decide ((0 : Int32) = 0), ?_, D4⟩
    · rw [zi_bI_t, if_neg (by decide), b15_7 (s_g2 S) (s_g3 S), show (4 : Int32) = nI 4 from rfl, e1]
      simp only [Option.bind_some, Option.toList_some, Option.toList_none, List.cons_append, List.nil_append]
      rw [b15_13 (Or.inl rfl)]
      exact c1
    · rw [y_pre S1, if_neg (by decide), if_pos ⟨rfl, rfl⟩, rq_1, y_rdF S1 D4.1]
      simp only [Option.bind_some, Option.toList_some, Option.toList_none, List.cons_append, List.nil_append]
      rw [b191_79 (p_g0 S1) (p_g1 S1), zP_w (by decide) (by decide), if_pos D4.1, b191_86]
  | false =>
    obtain ⟨w1, W1, hh1, cs⟩ := y_pr2 S1 Q hn W (T := T) (Fd := Fd) (bR := false) (by omega) (x := 0) (by decide) (by decide) (u := u)
    have xt := x_tn S E.1 (p := p) (A := A) (K := K) (F := F) (b := false) (lo := 2) (hi := 4) (by decide) (by decide)
    have bad : ∀ {z : Nat}, CB h (zv 4 18 0 [.ref 199, .ref 197, .int 2, .int 4] [] (zS h a p A K F false)) z → CB h (if zi_bI false = 0 then zv 5 15 14 [.ref 199, .ref 197] [] (zS h a p A K F false) else zv 5 15 7 [.ref 199, .ref 197] [] (zS h a p A K F false)) z := fun {z} c => by
      obtain ⟨a2, p2, A2, K2, F2, b2, e2, c2⟩ := c
      refine ⟨a2, p2, A2, K2, F2, b2, ?_, c2⟩
      rw [zi_bI_f, if_pos rfl, b15_14 (s_g2 S) (s_g3 S), e2]
      simp only [Option.bind_some, Option.toList_some, Option.toList_none, List.cons_append, List.nil_append]
      rw [b15_21, if_pos rfl, b15_24]
    rcases cs with ⟨k0, e0⟩ | ⟨k0, e0⟩
    · rcases xt with ⟨v, q3, -⟩ | ⟨-, c⟩
      · omega
      · exact Or.inl ⟨_, bad c, _, _, _, _, e0, W1.bd k0⟩
    · have e87 : ∀ {r : Int32} {w2 : Nat → Int32}, zv 3 187 0 [.ref 211, .int (nI 2), .int (nI 4), .double 0] [] (zP h1 w1 T Fd (false || decide ((0 : Int32) = 0))) = some (some (.int r), zP h1 w2 T Fd (false || decide ((0 : Int32) = 0))) → zv 5 191 17 [.ref 211, u] [.int 0] (zP h1 w T Fd false) = zv 5 191 121 [.ref 211, .int 0] [] (zP h1 (up w2 16 r) T Fd (false || decide ((0 : Int32) = 0))) := fun {r w2} e2 => by
        have e2' : zv 3 187 0 [.ref 211, .int 2, .int 4, .double 0] [] (zP h1 w1 T Fd (false || decide ((0 : Int32) = 0))) = some (some (.int r), zP h1 w2 T Fd (false || decide ((0 : Int32) = 0))) := e2
        rw [e0, b191_87, if_pos rfl, b191_91 (p_g0 S1) (p_g1 S1), e2']
        simp only [Option.bind_some, Option.toList_some, Option.toList_none, List.cons_append, List.nil_append]
        rw [b191_98 (p_g0 S1) (p_g1 S1), zP_ww _ (by decide) (by decide)]
      rcases y_rn S1 Q hx1 W1 (T := T) (Fd := Fd) (bR := false || decide ((0 : Int32) = 0)) (lo := 2) (hi := 4) (by decide) (by decide) (u := .double 0) with ⟨v, q3, hv, ev, l1, l2, w2, e2, W2, hh2⟩ | ⟨qq, w2, e2, D2, hh2⟩
      · rcases xt with ⟨v', -, hv', ev', -, -, a2, e3, E2, e4⟩ | ⟨qq, -⟩
        · have hvv : v' = v := by rw [ev] at ev'; exact ((nI_eq' (by omega) (by omega)).mp ev').symm
          subst hvv
          have W2' : TW (zh_i h 198) (up w2 16 (nI v')) t (lX (zh_i h 198) t (lX (zh_i h 198) t n)) := W2.same (fun j h9 h14 => up_n _ _ (by omega))
          have hx2 := lX_le (B := zh_i h 198) hx1
          have gt2 := lX_gt (B := zh_i h 198) (t := t) (n := lX (zh_i h 198) t n) (by omega)
          have ge2 := lS_ge (B := zh_i h 198) (t := t) (n := lX (zh_i h 198) t n)
          have cls : ∀ {o : Int32} {m : zi_Hp}, (o = 0 ∨ o = 1) → zv 4 19 0 [.ref 199, .ref 197] [] (zS h a2 (up p 1 (nI v')) A K F true) = some (some (.int o), m) → (if zi_bI false = 0 then zv 5 15 14 [.ref 199, .ref 197] [] (zS h a p A K F false) else zv 5 15 7 [.ref 199, .ref 197] [] (zS h a p A K F false)) = some (some (.int o), m) := fun {o m} ho e9 => by
            have e3' : zv 4 18 0 [.ref 199, .ref 197, .int 2, .int 4] [] (zS h a p A K F false) = some (some (.int 1), zS h a2 p A K F false) := e3
            rw [zi_bI_f, if_pos rfl, b15_14 (s_g2 S) (s_g3 S), e3']
            simp only [Option.bind_some, Option.toList_some, Option.toList_none, List.cons_append, List.nil_append]
            rw [b15_21, if_neg (by decide), b15_26 (s_g2 S) (s_g3 S), zS_wb, b15_33 (s_g0 S) (s_g1 S) (s_g2 S) (s_g3 S) (s_g2 S) (s_g3 S), zS_7, e4, zS_w9, e9]
            simp only [Option.bind_some, Option.toList_some, Option.toList_none, List.cons_append, List.nil_append]
            rw [b15_44 ho]
          rcases y_tl S1 Q hx2 W2' (T := T) (Fd := Fd) (bR := false || decide ((0 : Int32) = 0)) (x := 0) with ⟨k4, w3, e5, W3, hh3⟩ | ⟨k4, w3, e5, D3⟩
          · rcases x_ts S E2.1 (p := up p 1 (nI v')) (A := A) (K := K) (F := F) (b := true) with ⟨-, a3, e6, T3⟩ | ⟨k4', -⟩
            · have hx3 := lX_le (B := zh_i h 198) hx2
              have ge3 := lX_ge (B := zh_i h 198) (t := t) (n := lX (zh_i h 198) t (lX (zh_i h 198) t n))
              have ge4 := lS_ge (B := zh_i h 198) (t := t) (n := lX (zh_i h 198) t (lX (zh_i h 198) t n))
              refine Or.inr ⟨a3, up p 1 (nI v'), A, K, F, true, w3, T, Fd, _, _, cls (Or.inr rfl) e6, by rw [e87 e2, e5], T3, W3, ?_, by omega, hx3, up_n _ _ (by decide)⟩
              obtain ⟨m, m1, m2, m3, m4⟩ := d3
              obtain ⟨fm, f1, f2, f3⟩ := d4
              refine ⟨rfl, ⟨v', l1, l2, up_s _ _ _, ?_⟩, ⟨m, m1, ?_, ?_, m4⟩, ⟨fm, f1, ?_, f3⟩, ?_⟩
              · rw [hh3 16 (by decide), up_s]
              · rw [up_n _ _ (by decide)]; exact m2
              · rw [hh3 18 (by decide), up_n _ _ (by decide), hh2 18 (by decide), hh1 18 (by decide)]; exact m3
              · rw [hh3 20 (by decide), up_n _ _ (by decide), hh2 20 (by decide), hh1 20 (by decide)]; exact f2
              · rw [up_n _ _ (by decide)]; exact d5
            · exact absurd k4 k4'
          · rcases x_ts S E2.1 (p := up p 1 (nI v')) (A := A) (K := K) (F := F) (b := true) with ⟨k4', -⟩ | ⟨-, a5, p5, A5, K5, F5, b5, e6, c6⟩
            · exact absurd k4' k4
            · exact Or.inl ⟨_, ⟨a5, p5, A5, K5, F5, b5, cls (Or.inl rfl) e6, c6⟩, _, _, _, _, by rw [e87 e2, e5], D3⟩
        · rcases qq with qq | ⟨v', -, hv', ev', nv⟩
          · exact absurd q3 qq
          · have hvv : v' = v := by rw [ev] at ev'; exact ((nI_eq' (by omega) (by omega)).mp ev').symm
            exact absurd ⟨by omega, by omega⟩ nv
      · rcases xt with ⟨v', q3, hv', ev', l1, l2, -⟩ | ⟨-, c⟩
        · rcases qq with qq | ⟨v, -, hv, ev, nv⟩
          · exact absurd q3 qq
          · have hvv : v' = v := by rw [ev] at ev'; exact ((nI_eq' (by omega) (by omega)).mp ev').symm
            exact absurd ⟨by omega, by omega⟩ nv
        · have D2' : Bd (up w2 16 0) (lS (zh_i h 198) t (lX (zh_i h 198) t n)) := D2.same (fun j _ h14 => up_n _ _ (by omega))
          exact Or.inl ⟨_, bad c, _, _, _, _, by rw [e87 e2, y_tlB S1 D2'], D2'⟩
end R34N
