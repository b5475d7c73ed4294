/-! BOTH SIDES: any line, all lines of a text -/
/-- what reading all lines leaves -/
def TO (h h1 : zi_Hp) (u2 : Value) (oc oo : Option zi_Rt) : Prop :=
  (∃ a' p' A' K' F' b' z w' T' Fd' bR' x', oc = some (none, zS h a' p' A' K' F' b') ∧ (∃ c, 1 ≤ c ∧ c ≤ 5 ∧ p' 3 = nI c) ∧ p' 4 = nI z ∧ oo = zv 8 192 60 [.ref 211, .int x', u2] [] (zP h1 w' T' Fd' bR') ∧ Bd w' z)
  ∨ (∃ a' p' A' K' F' b' w' T' Fd' bR' k, oc = some (none, zS h a' p' A' K' F' b') ∧ oo = zv 8 192 60 [.ref 211, .int (nI k), u2] [] (zP h1 w' T' Fd' bR') ∧ DT p' A' K' F' b' w' T' Fd' bR' ∧ w' 13 = 0 ∧ p' 0 = nI k)
section R34Q
variable {h h1 : zi_Hp} {a p A K F w T Fd : Nat → Int32} {b bR : Bool} {t n : Nat}
theorem BO.c {p0 : Int32} {oc oc' oo : Option zi_Rt} (B : BO h h1 t n p0 oc oo) (e : ∀ {v : Int32} {m : zi_Hp}, (v = 0 ∨ v = 1) → oc = some (some (.int v), m) → oc' = some (some (.int v), m)) : BO h h1 t n p0 oc' oo := by
  rcases B with ⟨z, c, o⟩ | ⟨a', p', A', K', F', b', w', T', Fd', bR', n', c, o⟩
  · obtain ⟨m, e1, c1⟩ := c.o
    exact Or.inl ⟨z, by rw [e (Or.inl rfl) e1]; exact c1, o⟩
  · exact Or.inr ⟨a', p', A', K', F', b', w', T', Fd', bR', n', e (Or.inr rfl) c, o⟩
theorem j_line (S : Sh h) (S1 : Sh h1) (Q : BT (zh_i h 198) h1 t) (hn : n ≤ t) (E : TA (zh_i h 198) a t n) (W : TW (zh_i h 198) w t n) (hk0 : ¬ lK (zh_i h 198) t n = 0) (hk1 : ¬ lK (zh_i h 198) t n = 1) (D : DT p A K F b w T Fd bR) {u : Value} : BO h h1 t n (p 0) (zv 6 14 0 [.ref 199, .ref 197] [] (zS h a p A K F b)) (zv 5 191 0 [.ref 211, u] [] (zP h1 w T Fd bR)) := by
  obtain ⟨b1, b2, b3, b4, e1, e2, e3, e4, er, en⟩ := j_nm S S1 Q hn E W (p := p) (A := A) (K := K) (F := F) (b := b) (T := T) (Fd := Fd) (bR := bR)
  obtain ⟨w13, w11⟩ := W.2.2.2.1 hk0
  have hK := lK_le (B := zh_i h 198) (t := t) (n := n)
  -- no word
  have none4 : b1 = false → b2 = false → b3 = false → b4 = false → (zv 5 191 0 [.ref 211, u] [] (zP h1 w T Fd bR) = zv 5 191 17 [.ref 211, u] [.int (-4)] (zP h1 w T Fd bR)) → BO h h1 t n (p 0) (zv 6 14 0 [.ref 199, .ref 197] [] (zS h a p A K F b)) (zv 5 191 0 [.ref 211, u] [] (zP h1 w T Fd bR)) := fun z1 z2 z3 z4 eo => by
    have D2 : Bd (rqF w 0 2) (lS (zh_i h 198) t n) := W.rq hk0 (c := 2) (by decide) (by decide)
    have bad : ∀ {c : Nat}, 1 ≤ c → c ≤ 5 → CB h (zv 6 14 76 [.ref 199, .ref 197] [.int (nI c), .ref 197, .ref 199] (zS h a p A K F b)) (lS (zh_i h 198) t n) := fun {c} c1 c5 => by
      obtain ⟨e1, e2⟩ := CB.re S E (p := p) (A := A) (K := K) (F := F) (b := b) c1 c5
      rw [b14_76 (s_g2 S) (s_g3 S), e1]
      simp only [Option.bind_some, Option.toList_some, Option.toList_none, List.cons_append, List.nil_append]
      rw [b14_79 (Or.inl rfl)]
      exact e2
    refine Or.inl ⟨lS (zh_i h 198) t n, ?_, _, T, Fd, bR || decide ((-4 : Int32) = 0), ?_, D2⟩
    · rw [b14_0 (s_g0 S) (s_g1 S), e1, z1]
      simp only [Option.bind_some, Option.toList_some, Option.toList_none, List.cons_append, List.nil_append]
      rw [b14_6, zi_bI_f, if_pos rfl, b14_15 (s_g0 S) (s_g1 S), e2, z2]
      simp only [Option.bind_some, Option.toList_some, Option.toList_none, List.cons_append, List.nil_append]
      rw [b14_21, zi_bI_f, if_pos rfl, b14_31 (s_g0 S) (s_g1 S), e3, z3]
      simp only [Option.bind_some, Option.toList_some, Option.toList_none, List.cons_append, List.nil_append]
      rw [b14_37, zi_bI_f, if_pos rfl, b14_47 (s_g0 S) (s_g1 S), e4, z4]
      simp only [Option.bind_some, Option.toList_some, Option.toList_none, List.cons_append, List.nil_append]
      rw [b14_53, zi_bI_f, if_pos rfl, b14_62 (s_g0 S) (s_g1 S), zS_7]
      by_cases q : a 2 = 0
      · rw [if_pos q, b14_71]; exact bad (c := 1) (by decide) (by decide)
      · rw [if_neg q, b14_75]; exact bad (c := 2) (by decide) (by decide)
    · rw [eo, y_pre S1, if_pos rfl, if_neg (fun z => absurd z.1 (by decide)), rq_1, y_rdF S1 D2.1]
      simp only [Option.bind_some, Option.toList_some, Option.toList_none, List.cons_append, List.nil_append]
      rw [b191_79 (p_g0 S1) (p_g1 S1), zP_w (by decide) (by decide), if_pos D2.1, b191_86]
  by_cases hk : lK (zh_i h 198) t n = 2
  · have ro : zv 5 191 0 [.ref 211, u] [] (zP h1 w T Fd bR) = zv 5 191 17 [.ref 211, u] [.int (if b1 = true then 0 else if b2 = true then 1 else if b3 = true then 2 else if b4 = true then 3 else -4)] (zP h1 w T Fd bR) := by
      rw [b191_0 (p_g0 S1) (p_g1 S1), zP_w (by decide) (by decide), w11, hk, if_pos (show nI (2 - 1) = 1 from rfl), b191_8 (p_g0 S1) (p_g1 S1), er hk]
      simp only [Option.bind_some, Option.toList_some, Option.toList_none, List.cons_append, List.nil_append]
      rw [b191_12]
    cases z1 : b1 with
    | true =>
      rw [z1, if_pos rfl] at ro
      rw [ro]
      refine (j_room1 S S1 Q hn E W hk D (u := u)).c (fun {v m} hv ec => ?_)
      rw [b14_0 (s_g0 S) (s_g1 S), e1, z1]
      simp only [Option.bind_some, Option.toList_some, Option.toList_none, List.cons_append, List.nil_append]
      rw [b14_6, zi_bI_t, if_neg (by decide), b14_9 (s_g2 S) (s_g3 S), ec]
      simp only [Option.bind_some, Option.toList_some, Option.toList_none, List.cons_append, List.nil_append]
      rw [b14_14 hv]
    | false =>
      rw [z1, if_neg (by decide)] at ro
      have c1 : zv 6 14 0 [.ref 199, .ref 197] [] (zS h a p A K F b) = zv 6 14 15 [.ref 199, .ref 197] [] (zS h a p A K F b) := by
        rw [b14_0 (s_g0 S) (s_g1 S), e1, z1]
        simp only [Option.bind_some, Option.toList_some, Option.toList_none, List.cons_append, List.nil_append]
        rw [b14_6, zi_bI_f, if_pos rfl]
      cases z2 : b2 with
      | true =>
        rw [z2, if_pos rfl] at ro
        rw [ro]
        refine (j_keys S S1 Q (act := 1) (by decide) (by decide) hn E W hk D (u := u) (u' := .double 0)).c (fun {v m} hv ec => ?_)
        have ec' : zv 4 16 0 [.ref 199, .ref 197, .int 1, .double 0] [] (zS h a p A K F b) = some (some (.int v), m) := ec
        rw [c1, b14_15 (s_g0 S) (s_g1 S), e2, z2]
        simp only [Option.bind_some, Option.toList_some, Option.toList_none, List.cons_append, List.nil_append]
        rw [b14_21, zi_bI_t, if_neg (by decide), b14_24 (s_g2 S) (s_g3 S), ec']
        simp only [Option.bind_some, Option.toList_some, Option.toList_none, List.cons_append, List.nil_append]
        rw [b14_30 hv]
      | false =>
        rw [z2, if_neg (by decide)] at ro
        have c2 : zv 6 14 0 [.ref 199, .ref 197] [] (zS h a p A K F b) = zv 6 14 31 [.ref 199, .ref 197] [] (zS h a p A K F b) := by
          rw [c1, b14_15 (s_g0 S) (s_g1 S), e2, z2]
          simp only [Option.bind_some, Option.toList_some, Option.toList_none, List.cons_append, List.nil_append]
          rw [b14_21, zi_bI_f, if_pos rfl]
        cases z3 : b3 with
        | true =>
          rw [z3, if_pos rfl] at ro
          rw [ro]
          refine (j_keys S S1 Q (act := 2) (by decide) (by decide) hn E W hk D (u := u) (u' := .double 0)).c (fun {v m} hv ec => ?_)
          have ec' : zv 4 16 0 [.ref 199, .ref 197, .int 2, .double 0] [] (zS h a p A K F b) = some (some (.int v), m) := ec
          rw [c2, b14_31 (s_g0 S) (s_g1 S), e3, z3]
          simp only [Option.bind_some, Option.toList_some, Option.toList_none, List.cons_append, List.nil_append]
          rw [b14_37, zi_bI_t, if_neg (by decide), b14_40 (s_g2 S) (s_g3 S), ec']
          simp only [Option.bind_some, Option.toList_some, Option.toList_none, List.cons_append, List.nil_append]
          rw [b14_46 hv]
        | false =>
          rw [z3, if_neg (by decide)] at ro
          cases z4 : b4 with
          | true =>
            rw [z4, if_pos rfl] at ro
            rw [ro]
            refine (j_find S S1 Q hn E W hk D (u := u) (u' := .double 0)).c (fun {v m} hv ec => ?_)
            rw [c2, b14_31 (s_g0 S) (s_g1 S), e3, z3]
            simp only [Option.bind_some, Option.toList_some, Option.toList_none, List.cons_append, List.nil_append]
            rw [b14_37, zi_bI_f, if_pos rfl, b14_47 (s_g0 S) (s_g1 S), e4, z4]
            simp only [Option.bind_some, Option.toList_some, Option.toList_none, List.cons_append, List.nil_append]
            rw [b14_53, zi_bI_t, if_neg (by decide), b14_56 (s_g2 S) (s_g3 S), ec]
            simp only [Option.bind_some, Option.toList_some, Option.toList_none, List.cons_append, List.nil_append]
            rw [b14_61 hv]
          | false =>
            rw [z4, if_neg (by decide)] at ro
            exact none4 z1 z2 z3 z4 ro
  · obtain ⟨z1, z2, z3, z4⟩ := en hk
    refine none4 z1 z2 z3 z4 ?_
    rw [b191_0 (p_g0 S1) (p_g1 S1), zP_w (by decide) (by decide), w11, if_neg (show ¬ nI (lK (zh_i h 198) t n - 1) = 1 from fun z => hk (by have := (nI_eq' (b := 1) (by omega) (by decide)).mp z; omega)), b191_15]
theorem j_tl (S : Sh h) (S1 : Sh h1) (Q : BT (zh_i h 198) h1 t) {u2 : Value} : ∀ d i, i + d = 160 → ∀ {n : Nat} {a p A K F w T Fd : Nat → Int32} {b bR : Bool}, n ≤ t → i ≤ n → TA (zh_i h 198) a t n → TW (zh_i h 198) w t n → DT p A K F b w T Fd bR → p 0 = nI i → TO h h1 u2 (zv 7 13 49 [.ref 199, .ref 197, .int (nI i)] [] (zS h a p A K F b)) (zv 8 192 36 [.ref 211, .int (nI i), u2] [] (zP h1 w T Fd bR))
  | d, i, hi, n, a, p, A, K, F, w, T, Fd, b, bR, hn, hin, E, W, D, e0 => by
    have ht := Q.1
    have hK := lK_le (B := zh_i h 198) (t := t) (n := n)
    -- the end of the tape
    have ends : lK (zh_i h 198) t n = 1 → zv 7 13 49 [.ref 199, .ref 197, .int (nI i)] [] (zS h a p A K F b) = some (none, zS h a p A K F b) → TO h h1 u2 (zv 7 13 49 [.ref 199, .ref 197, .int (nI i)] [] (zS h a p A K F b)) (zv 8 192 36 [.ref 211, .int (nI i), u2] [] (zP h1 w T Fd bR)) := fun k1 ec => by
      obtain ⟨w13, w11⟩ := W.2.2.2.1 (by omega)
      refine Or.inr ⟨a, p, A, K, F, b, w, T, Fd, bR, i, ec, ?_, D, w13, e0⟩
      rw [b192_36 (p_g0 S1) (p_g1 S1), zP_w (by decide) (by decide), if_pos w13, b192_43 (p_g0 S1) (p_g1 S1), zP_w (by decide) (by decide), w11, k1, if_pos (show nI (1 - 1) = 0 from rfl)]
    match d, hi with
    | 0, hi =>
      have ei : i = 160 := by omega
      have en : n = t := by omega
      have k1 : lK (zh_i h 198) t n = 1 := (lK_end (B := zh_i h 198) (t := t) (n := n) (by have := lS_ge (B := zh_i h 198) (t := t) (n := n); omega)).1
      subst ei
      exact ends k1 (by rw [b13_49, if_neg (by decide), b13_93])
    | d + 1, hi =>
      have c1 : zv 7 13 49 [.ref 199, .ref 197, .int (nI i)] [] (zS h a p A K F b) = if a 2 = 1 then some (none, zS h a p A K F b) else (zv 6 14 0 [.ref 199, .ref 197] [] (zS h a p A K F b)).bind fun r => zv 7 13 69 [.ref 199, .ref 197, .int (nI i)] (r.1.toList ++ []) r.2 := by
        rw [b13_49, if_pos (show nI i < 160 from nI_lt (b := 160) (by omega) (by decide)), b13_56 (s_g0 S) (s_g1 S), zS_7, b13_93, b13_64 (s_g2 S) (s_g3 S)]
      by_cases k1 : lK (zh_i h 198) t n = 1
      · exact ends k1 (by rw [c1, if_pos (show a 2 = 1 from (E.k (k := 1) (by decide)).mpr k1)])
      · have na : ¬ a 2 = 1 := fun z => k1 ((E.k (k := 1) (by decide)).mp z)
        rw [if_neg na] at c1
        have fails : ∀ {z : Nat}, CB h (zv 6 14 0 [.ref 199, .ref 197] [] (zS h a p A K F b)) z → ∀ {w' T' Fd' : Nat → Int32} {bR' : Bool} {x' : Int32}, zv 8 192 36 [.ref 211, .int (nI i), u2] [] (zP h1 w T Fd bR) = zv 8 192 60 [.ref 211, .int x', u2] [] (zP h1 w' T' Fd' bR') → Bd w' z → TO h h1 u2 (zv 7 13 49 [.ref 199, .ref 197, .int (nI i)] [] (zS h a p A K F b)) (zv 8 192 36 [.ref 211, .int (nI i), u2] [] (zP h1 w T Fd bR)) := fun {z} c {w' T' Fd' bR' x'} eo Db => by
          obtain ⟨a', p', A', K', F', b', ec, c2, c3⟩ := c
          refine Or.inl ⟨a', p', A', K', F', b', z, w', T', Fd', bR', x', ?_, c2, c3, eo, Db⟩
          rw [c1, ec]
          simp only [Option.bind_some, Option.toList_some, Option.toList_none, List.cons_append, List.nil_append]
          rw [b13_69, if_pos rfl, b13_72]
        by_cases k0 : lK (zh_i h 198) t n = 0
        · have Db := W.bd k0
          obtain ⟨b1, b2, b3, b4, e1, e2, e3, e4, -, en⟩ := j_nm S S1 Q hn E W (p := p) (A := A) (K := K) (F := F) (b := b) (T := T) (Fd := Fd) (bR := bR)
          obtain ⟨z1, z2, z3, z4⟩ := en (by omega)
          refine fails (z := lS (zh_i h 198) t n) (x' := nI i) ?_ (by rw [b192_36 (p_g0 S1) (p_g1 S1), zP_w (by decide) (by decide), if_neg Db.z]) Db
          obtain ⟨e5, e6⟩ := CB.re S E (p := p) (A := A) (K := K) (F := F) (b := b) (c := 1) (by decide) (by decide)
          rw [b14_0 (s_g0 S) (s_g1 S), e1, z1]
          simp only [Option.bind_some, Option.toList_some, Option.toList_none, List.cons_append, List.nil_append]
          rw [b14_6, zi_bI_f, if_pos rfl, b14_15 (s_g0 S) (s_g1 S), e2, z2]
          simp only [Option.bind_some, Option.toList_some, Option.toList_none, List.cons_append, List.nil_append]
          rw [b14_21, zi_bI_f, if_pos rfl, b14_31 (s_g0 S) (s_g1 S), e3, z3]
          simp only [Option.bind_some, Option.toList_some, Option.toList_none, List.cons_append, List.nil_append]
          rw [b14_37, zi_bI_f, if_pos rfl, b14_47 (s_g0 S) (s_g1 S), e4, z4]
          simp only [Option.bind_some, Option.toList_some, Option.toList_none, List.cons_append, List.nil_append]
          rw [b14_53, zi_bI_f, if_pos rfl, b14_62 (s_g0 S) (s_g1 S), zS_7, if_pos (show a 2 = 0 from (E.k (k := 0) (by decide)).mpr k0), b14_71, b14_76 (s_g2 S) (s_g3 S), show (1 : Int32) = nI 1 from rfl, e5]
          simp only [Option.bind_some, Option.toList_some, Option.toList_none, List.cons_append, List.nil_append]
          rw [b14_79 (Or.inl rfl)]
          exact e6
        · obtain ⟨w13, w11⟩ := W.2.2.2.1 k0
          have ro : zv 8 192 36 [.ref 211, .int (nI i), u2] [] (zP h1 w T Fd bR) = (zv 5 191 0 [.ref 211, .double 0] [] (zP h1 w T Fd bR)).bind fun r => zv 8 192 54 [.ref 211, .int (nI i), u2] (r.1.toList ++ []) r.2 := by
            rw [b192_36 (p_g0 S1) (p_g1 S1), zP_w (by decide) (by decide), if_pos w13, b192_43 (p_g0 S1) (p_g1 S1), zP_w (by decide) (by decide), w11, if_neg (show ¬ nI (lK (zh_i h 198) t n - 1) = 0 from fun z => by have := (nI_eq' (b := 0) (by omega) (by decide)).mp z; omega), b192_50 (p_g0 S1) (p_g1 S1)]
          rcases j_line S S1 Q hn E W k0 k1 D (u := .double 0) with ⟨z, c, w', T', Fd', bR', e6, Db⟩ | ⟨a', p', A', K', F', b', w', T', Fd', bR', n', c, e6, T7, W7, D7, hlt, hn', ep⟩
          · refine fails c (w' := w') (T' := T') (Fd' := Fd') (bR' := bR') (x' := nI (i + 1)) ?_ Db
            rw [ro, e6]
            simp only [Option.bind_some, Option.toList_some, Option.toList_none, List.cons_append, List.nil_append]
            rw [b192_54, nI_s, b192_36 (p_g0 S1) (p_g1 S1), zP_w (by decide) (by decide), if_neg Db.z]
          · obtain ⟨a3, e3, E3⟩ := x_sc S T7 (p := up p' 0 (nI (i + 1))) (A := A') (K := K') (F := F') (b := b') (u := .double 0)
            have c2 : zv 7 13 49 [.ref 199, .ref 197, .int (nI i)] [] (zS h a p A K F b) = zv 7 13 49 [.ref 199, .ref 197, .int (nI (i + 1))] [] (zS h a3 (up p' 0 (nI (i + 1))) A' K' F' b') := by
              rw [c1, c]
              simp only [Option.bind_some, Option.toList_some, Option.toList_none, List.cons_append, List.nil_append]
              rw [b13_69, if_neg (by decide), b13_73 (s_g2 S) (s_g3 S) (s_g0 S) (s_g1 S), zS_9, zS_w9, ep, e0, nI_s, e3]
              simp only [Option.bind_some, Option.toList_some, Option.toList_none, List.cons_append, List.nil_append]
              rw [b13_87, nI_s]
            have r2 : zv 8 192 36 [.ref 211, .int (nI i), u2] [] (zP h1 w T Fd bR) = zv 8 192 36 [.ref 211, .int (nI (i + 1)), u2] [] (zP h1 w' T' Fd' bR') := by
              rw [ro, e6]
              simp only [Option.bind_some, Option.toList_some, Option.toList_none, List.cons_append, List.nil_append]
              rw [b192_54, nI_s]
            have D8 : DT (up p' 0 (nI (i + 1))) A' K' F' b' w' T' Fd' bR' := by
              obtain ⟨d1, d2, d3, d4, d5⟩ := D7
              unfold DT
              rw [up_n _ _ (by decide), up_n _ _ (by decide), up_n _ _ (by decide)]
              exact ⟨d1, d2, d3, d4, d5⟩
            rw [c2, r2]
            exact j_tl S S1 Q d (i + 1) (by omega) hn' (by omega) E3 W7 D8 (up_s _ _ _)
end R34Q
