/-! BOTH SIDES: a line that finds; any line -/
section R34P
variable {h h1 : zi_Hp} {a p A K F w T Fd : Nat → Int32} {b bR : Bool} {t n : Nat}
/-- is a client told already -/
theorem y_f1 (S1 : Sh h1) {fm : Nat} (hf : fm ≤ 3) (e20 : w 20 = nI fm) {x : Int32} : ∃ v : Bool, (∀ u2 u3 : Value, zv 1 188 0 [.ref 211, .int x, u2, u3] [] (zP h1 w T Fd bR) = some (some (.int (zi_bI v)), zP h1 w T Fd bR)) ∧ (v = true ↔ ∃ k, k < fm ∧ Fd (2 * k) = x) := by
  have lp : ∀ d i (c : Bool), i + d = fm → ∃ v : Bool, zv 1 188 4 [.ref 211, .int x, .int (zi_bI c), .int (nI i)] [] (zP h1 w T Fd bR) = some (some (.int (zi_bI v)), zP h1 w T Fd bR) ∧ (v = true ↔ (c = true ∨ ∃ k, i ≤ k ∧ k < fm ∧ Fd (2 * k) = x)) := by
    intro d
    induction d with
    | zero =>
      intro i c hi
      have e : i = fm := by omega
      subst e
      rw [b188_4 (p_g0 S1) (p_g1 S1), zP_w (by decide) (by decide), e20, if_neg Int32.lt_irrefl, b188_40 (bI_01 c)]
      exact ⟨c, rfl, fun z => Or.inl z, fun z => z.elim id (fun ⟨k, h1, h2, _⟩ => absurd h2 (by omega))⟩
    | succ d ih =>
      intro i c hi
      have e3 : nI i < nI fm := nI_lt (by omega) (by omega)
      have r19 : zh_r (zP h1 w T Fd bR) 211 19 = .ref 220 := by rw [zP_r, S1.r, rx_211_19]
      have e2 : (2 : Int32) * nI i = nI (2 * i) := by have := nI_i2 (a := i) (i := 0); rw [show nI 0 = 0 from rfl, Int32.add_zero] at this; exact this
      have nx : ∀ c' : Bool, (c' = true ↔ (c = true ∨ Fd (2 * i) = x)) → ∃ v : Bool, zv 1 188 33 [.ref 211, .int x, .int (zi_bI c), .int (nI i)] [.int (zi_bI c')] (zP h1 w T Fd bR) = some (some (.int (zi_bI v)), zP h1 w T Fd bR) ∧ (v = true ↔ (c = true ∨ ∃ k, i ≤ k ∧ k < fm ∧ Fd (2 * k) = x)) := fun c' hc' => by
        obtain ⟨v, e, hv⟩ := ih (i + 1) c' (by omega)
        refine ⟨v, by rw [b188_33, nI_s]; exact e, hv.trans ?_⟩
        rw [hc']
        constructor
        · rintro ((z | z) | ⟨k, k1, k2, k3⟩)
          · exact Or.inl z
          · exact Or.inr ⟨i, Nat.le_refl _, by omega, z⟩
          · exact Or.inr ⟨k, by omega, k2, k3⟩
        · rintro (z | ⟨k, k1, k2, k3⟩)
          · exact Or.inl (Or.inl z)
          · by_cases q : k = i
            · subst q; exact Or.inl (Or.inr k3)
            · exact Or.inr ⟨k, by omega, k2, k3⟩
      rw [b188_4 (p_g0 S1) (p_g1 S1), zP_w (by decide) (by decide), e20, if_pos e3, b188_12]
      cases c with
      | true =>
        rw [zi_bI_t, if_neg (by decide), b188_28]
        exact nx true ⟨fun _ => Or.inl rfl, fun _ => rfl⟩
      | false =>
        rw [zi_bI_f, if_pos rfl, b188_16 (p_g0 S1) (p_g1 S1) (by rw [r19, zq_rf]) (by rw [r19, zq_rf, zP_n, S1.n]; decide) (by rw [r19, zq_rf, zP_k, S1.k, kx_220, e2]; exact zj_n (by omega) (by decide)) (by rw [r19, zq_rf, zP_k, S1.k, kx_220]), r19, zq_rf, zP_F, e2, nI_clamp (by omega)]
        by_cases hx : Fd (2 * i) = x
        · rw [if_pos hx, b188_28]; exact nx true ⟨fun _ => Or.inr hx, fun _ => rfl⟩
        · rw [if_neg hx, b188_32]; exact nx false ⟨fun z => absurd z (by decide), fun z => z.elim (fun y => absurd y (by decide)) (fun y => absurd y hx)⟩
  obtain ⟨v, e, hv⟩ := lp fm 0 false (Nat.zero_add _)
  refine ⟨v, fun u2 u3 => by rw [b188_0]; exact e, hv.trans ⟨fun z => z.elim (fun y => absurd y (by decide)) (fun ⟨k, _, k2, k3⟩ => ⟨k, k2, k3⟩), fun ⟨k, k2, k3⟩ => Or.inr ⟨k, Nat.zero_le _, k2, k3⟩⟩⟩
theorem j_find (S : Sh h) (S1 : Sh h1) (Q : BT (zh_i h 198) h1 t) (hn : n ≤ t) (E : TA (zh_i h 198) a t n) (W : TW (zh_i h 198) w t n) (hk : lK (zh_i h 198) t n = 2) (D : DT p A K F b w T Fd bR) {u u' : Value} : BO h h1 t n (p 0) (zv 5 17 0 [.ref 199, .ref 197, u'] [] (zS h a p A K F b)) (zv 5 191 17 [.ref 211, u] [.int 3] (zP h1 w T Fd bR)) := by
  have hx1 := lX_le (B := zh_i h 198) hn
  have gt1 := (lX_gt (B := zh_i h 198) (t := t) (n := n) (by omega)).1
  have ge1 := lS_ge (B := zh_i h 198) (t := t) (n := n)
  obtain ⟨w1, W1, hh1, cs⟩ := y_pr2 S1 Q hn W (T := T) (Fd := Fd) (bR := bR) (by omega) (x := 3) (by decide) (fun z => absurd z.1 (by decide)) (u := u)
  rw [show decide ((3 : Int32) = 0) = false from rfl, Bool.or_false] at cs
  have D1 : DT p A K F b w1 T Fd bR := D.wh hh1
  obtain ⟨d1, d2, d3, ⟨fm, f1, f2, f3, f4, f5⟩, d5⟩ := id D1
  have xt := x_tn S E.1 (p := p) (A := A) (K := K) (F := F) (b := b) (lo := 0) (hi := 2) (by decide) (by decide)
  have bad : ∀ {z : Nat}, CB h (zv 4 18 0 [.ref 199, .ref 197, .int 0, .int 2] [] (zS h a p A K F b)) z → CB h (zv 5 17 0 [.ref 199, .ref 197, u'] [] (zS h a p A K F b)) z := fun {z} c => by
    obtain ⟨a2, p2, A2, K2, F2, b2, e2, c2⟩ := c
    refine ⟨a2, p2, A2, K2, F2, b2, ?_, c2⟩
    rw [b17_0 (s_g2 S) (s_g3 S), e2]
    simp only [Option.bind_some, Option.toList_some, Option.toList_none, List.cons_append, List.nil_append]
    rw [b17_7, if_pos rfl, b17_10]
  rcases cs with ⟨k0, e0⟩ | ⟨k0, e0⟩
  · rcases xt with ⟨v, q3, -⟩ | ⟨-, c⟩
    · omega
    · exact Or.inl ⟨_, bad c, _, _, _, _, e0, W1.bd k0⟩
  · have go : zv 5 191 17 [.ref 211, u] [.int 3] (zP h1 w T Fd bR) = (zv 4 189 0 [.ref 211, .double 0, .double 0] [] (zP h1 w1 T Fd bR)).bind fun r => zv 5 191 113 [.ref 211, .int 3] (r.1.toList ++ []) r.2 := by
      rw [e0, b191_87, if_neg (by decide), b191_104, if_pos rfl, b191_109 (p_g0 S1) (p_g1 S1)]
    obtain ⟨w13, w11⟩ := W1.2.2.2.1 k0
    have hK := lK_le (B := zh_i h 198) (t := t) (n := lX (zh_i h 198) t n)
    -- a fault told ahead of the client's key
    have fin : ∀ {w' : Nat → Int32} {z : Nat}, Bd w' z → zv 4 189 0 [.ref 211, .double 0, .double 0] [] (zP h1 w1 T Fd bR) = some (none, zP h1 w' T Fd bR) → zv 5 191 17 [.ref 211, u] [.int 3] (zP h1 w T Fd bR) = some (none, zP h1 w' T Fd bR) := fun {w' z} D9 e9 => by
      rw [go, e9]
      simp only [Option.bind_some, Option.toList_some, Option.toList_none, List.cons_append, List.nil_append]
      rw [b191_113, y_tlB S1 D9]
    have e77 : ∀ {w' : Nat → Int32} {z : Nat}, Bd w' z → zv 4 189 77 [.ref 211, .double 0, .double 0] [] (zP h1 w' T Fd bR) = some (none, zP h1 w' T Fd bR) := fun {w' z} D9 => by
      rw [b189_77 (p_g0 S1) (p_g1 S1), zP_w (by decide) (by decide), if_pos D9.1, b189_84]
    have e49 : ∀ {w' : Nat → Int32} {z : Nat}, Bd w' z → zv 4 189 49 [.ref 211, .double 0, .double 0] [] (zP h1 w' T Fd bR) = some (none, zP h1 w' T Fd bR) := fun {w' z} D9 => by
      rw [b189_49 (p_g0 S1) (p_g1 S1), zP_w (by decide) (by decide), if_neg D9.z]; exact e77 D9
    have e25 : ∀ {w' : Nat → Int32} {z : Nat}, Bd w' z → zv 4 189 25 [.ref 211, .double 0, .double 0] [] (zP h1 w' T Fd bR) = some (none, zP h1 w' T Fd bR) := fun {w' z} D9 => by
      rw [b189_25 (p_g0 S1) (p_g1 S1), zP_w (by decide) (by decide), if_neg D9.z]; exact e49 D9
    rcases xt with ⟨v, q3, hv, ev, -, l2, a2, e3, E2, e4⟩ | ⟨qq, c⟩
    · have hv3 : ¬ nI v < 0 ∧ nI v < 3 := ⟨nI_pos (by omega), nI_lt (b := 3) (by omega) (by decide)⟩
      have r7 : zh_r (zS h a2 p A K F b) 199 7 = .ref 202 := by rw [zS_r, S.r, rx_199_7]
      have nc : (nI v).toNatClampNeg = v := nI_clamp (by omega)
      have e3' : zv 4 18 0 [.ref 199, .ref 197, .int 0, .int 2] [] (zS h a p A K F b) = some (some (.int 1), zS h a2 p A K F b) := e3
      have cg : zv 5 17 0 [.ref 199, .ref 197, u'] [] (zS h a p A K F b) = if F v < 0 then zv 5 17 40 [.ref 199, .ref 197, .int (nI v)] [] (zS h a2 p A K F b) else zv 5 17 33 [.ref 199, .ref 197, .int (nI v)] [] (zS h a2 p A K F b) := by
        rw [b17_0 (s_g2 S) (s_g3 S), e3']
        simp only [Option.bind_some, Option.toList_some, Option.toList_none, List.cons_append, List.nil_append]
        rw [b17_7, if_neg (by decide), b17_12 (s_g0 S) (s_g1 S), zS_7, e4, p_133, decide_eq_true hv3]
        simp only [Option.bind_some, Option.toList_some, Option.toList_none, List.cons_append, List.nil_append]
        rw [b17_21, zi_bI_t, if_neg (by decide), b17_24 (s_g2 S) (s_g3 S) (by rw [r7, zq_rf]) (by rw [r7, zq_rf, zS_n, S.n]; decide) (by rw [r7, zq_rf, zS_k, S.k, kx_202]; exact zj_n (by omega) (by decide)) (by rw [r7, zq_rf, zS_k, S.k, kx_202]), r7, zq_rf, nc, zS_F]
      have w12 : w1 12 = nI v := (W1.2.2.2.2 q3).trans ev
      obtain ⟨fb, ef, hf⟩ := y_f1 S1 f1 f2 (T := T) (Fd := Fd) (bR := bR) (x := nI v)
      have r77 : zv 4 189 0 [.ref 211, .double 0, .double 0] [] (zP h1 w1 T Fd bR) = zv 4 189 77 [.ref 211, .double 0, .double 0] [] (zP h1 (rqF w1 (if fb = true then 0 else 1) 4) T Fd bR) := by
        have f73 : ∀ g : Int32, zv 4 189 73 [.ref 211, .double 0, .double 0] [.int g, .ref 211] (zP h1 w1 T Fd bR) = zv 4 189 77 [.ref 211, .double 0, .double 0] [] (zP h1 (rqF w1 g 4) T Fd bR) := fun g => by
          rw [b189_73 (p_g0 S1) (p_g1 S1), p_rq S1]
          simp only [Option.bind_some, Option.toList_some, Option.toList_none, List.cons_append, List.nil_append]
        rw [b189_0 (p_g0 S1) (p_g1 S1), zP_w (by decide) (by decide), if_pos w13, b189_7 (p_g0 S1) (p_g1 S1), zP_w (by decide) (by decide), w11, q3, if_pos (show nI (3 - 1) = 2 from rfl), b189_16, b189_21 (p_g0 S1) (p_g1 S1), p_rq S1, rq_1]
        simp only [Option.bind_some, Option.toList_some, Option.toList_none, List.cons_append, List.nil_append]
        rw [b189_25 (p_g0 S1) (p_g1 S1), zP_w (by decide) (by decide), if_pos w13, b189_32 (p_g0 S1) (p_g1 S1), zP_w (by decide) (by decide), w12, show (0 : Int64) = (nI 0).toInt64 from rfl, show (2 : Int64) = (nI 2).toInt64 from rfl, c_iy ⟨Int32.not_lt.mp (nI_nlt (Nat.zero_le _) (by omega)), Int32.not_lt.mp (nI_nlt l2 (by omega))⟩]
        simp only [Option.bind_some, Option.toList_some, Option.toList_none, List.cons_append, List.nil_append]
        rw [b189_45 (p_g0 S1) (p_g1 S1), p_rq S1, rq_1]
        simp only [Option.bind_some, Option.toList_some, Option.toList_none, List.cons_append, List.nil_append]
        rw [b189_49 (p_g0 S1) (p_g1 S1), zP_w (by decide) (by decide), if_pos w13, b189_56 (p_g0 S1) (p_g1 S1), zP_w (by decide) (by decide), w12, ef]
        simp only [Option.bind_some, Option.toList_some, Option.toList_none, List.cons_append, List.nil_append]
        rw [b189_65]
        cases fb with
        | false => rw [zi_bI_f, if_pos rfl, b189_68, f73, if_neg (by decide)]
        | true => rw [zi_bI_t, if_neg (by decide), b189_72, f73, if_pos rfl]
      have Fneg : F v < 0 ↔ fb = false := by
        constructor
        · intro z
          cases fb with
          | false => rfl
          | true =>
            obtain ⟨k, k1, k2⟩ := hf.mp rfl
            obtain ⟨c, q, c3, q9, c4, c5, c6⟩ := f3 k k1
            have : c = v := by rw [c4] at k2; exact (nI_eq' (by omega) (by omega)).mp k2
            subst this
            rw [c6] at z
            exact absurd z (nI_pos (by omega))
        · intro z
          rcases f4 v (by omega) with y | ⟨k, k1, k2⟩
          · exact y
          · have := hf.mpr ⟨k, k1, k2⟩
            rw [z] at this
            exact absurd this (by decide)
      cases hfb : fb with
      | true =>
        have nF : ¬ F v < 0 := fun z => by have := Fneg.mp z; rw [hfb] at this; exact absurd this (by decide)
        obtain ⟨e9, c9⟩ := CB.re S E2 (p := p) (A := A) (K := K) (F := F) (b := b) (c := 4) (by decide) (by decide)
        have D4 : Bd (rqF w1 0 4) (lS (zh_i h 198) t (lX (zh_i h 198) t n)) := W1.rq k0 (c := 4) (by decide) (by decide)
        refine Or.inl ⟨_, ?_, _, T, Fd, bR, fin D4 (by rw [r77, hfb, if_pos rfl]; exact e77 D4), D4⟩
        rw [cg, if_neg nF, b17_33 (s_g2 S) (s_g3 S), show (4 : Int32) = nI 4 from rfl, e9]
        simp only [Option.bind_some, Option.toList_some, Option.toList_none, List.cons_append, List.nil_append]
        rw [b17_39 (Or.inl rfl)]
        exact c9
      | false =>
        have yF : F v < 0 := Fneg.mpr hfb
        have nk : ∀ k, k < fm → ¬ Fd (2 * k) = nI v := fun k k1 k2 => by
          have := hf.mpr ⟨k, k1, k2⟩
          rw [hfb] at this
          exact absurd this (by decide)
        rw [hfb, if_neg (by decide), rq_1] at r77
        have hx2 := lX_le (B := zh_i h 198) hx1
        have gt2 := lX_gt (B := zh_i h 198) (t := t) (n := lX (zh_i h 198) t n) (by omega)
        have ge2 := lS_ge (B := zh_i h 198) (t := t) (n := lX (zh_i h 198) t n)
        obtain ⟨w2, e6, W2, hh2⟩ := y_rd S1 Q (w := w1) (T := T) (F := Fd) (b := bR) (n := lX (zh_i h 198) t (lX (zh_i h 198) t n)) hx2 W1.1 w13 (u := .double 0)
        have r94 : zv 4 189 0 [.ref 211, .double 0, .double 0] [] (zP h1 w1 T Fd bR) = (zv 3 187 0 [.ref 211, .int 0, .int 99, .double 0] [] (zP h1 w2 T Fd bR)).bind fun r => zv 4 189 101 [.ref 211, .int (nI v), .double 0] (r.1.toList ++ []) r.2 := by
          rw [r77, b189_77 (p_g0 S1) (p_g1 S1), zP_w (by decide) (by decide), w13, if_neg (by decide), b189_85 (p_g0 S1) (p_g1 S1), zP_w (by decide) (by decide), w12, e6]
          simp only [Option.bind_some, Option.toList_some, Option.toList_none, List.cons_append, List.nil_append]
          rw [b189_94 (p_g0 S1) (p_g1 S1)]
        have xt2 := x_tn S E2.1 (p := p) (A := A) (K := K) (F := F) (b := b) (lo := 0) (hi := 99) (by decide) (by decide)
        rcases y_rn S1 Q hx2 W2 (T := T) (Fd := Fd) (bR := bR) (lo := 0) (hi := 99) (by decide) (by decide) (u := .double 0) with ⟨y, y3, hy, ey, -, -, w3, e7, W3, hh3⟩ | ⟨yy, w3, e7, D3, hh3⟩
        · rcases xt2 with ⟨y', -, hy', ey', -, -, a3, e8, E3, e9⟩ | ⟨yy, -⟩
          · have hyy : y' = y := by rw [ey] at ey'; exact ((nI_eq' (by omega) (by omega)).mp ey').symm
            subst hyy
            have e7' : zv 3 187 0 [.ref 211, .int 0, .int 99, .double 0] [] (zP h1 w2 T Fd bR) = some (some (.int (nI y')), zP h1 w3 T Fd bR) := e7
            have e8' : zv 4 18 0 [.ref 199, .ref 197, .int 0, .int 99] [] (zS h a2 p A K F b) = some (some (.int 1), zS h a3 p A K F b) := e8
            have hx3 := lX_le (B := zh_i h 198) hx2
            have gt3 := lX_gt (B := zh_i h 198) (t := t) (n := lX (zh_i h 198) t (lX (zh_i h 198) t n)) (by omega)
            have ge3 := lS_ge (B := zh_i h 198) (t := t) (n := lX (zh_i h 198) t (lX (zh_i h 198) t n))
            have r7' : zh_r (zS h a3 p A K F b) 199 7 = .ref 202 := by rw [zS_r, S.r, rx_199_7]
            have cls : ∀ {o : Int32} {m : zi_Hp}, (o = 0 ∨ o = 1) → zv 4 19 0 [.ref 199, .ref 197] [] (zS h a3 p A K (up F v (nI y')) b) = some (some (.int o), m) → zv 5 17 0 [.ref 199, .ref 197, u'] [] (zS h a p A K F b) = some (some (.int o), m) := fun {o m} ho e9' => by
              rw [cg, if_pos yF, b17_40 (s_g2 S) (s_g3 S), e8']
              simp only [Option.bind_some, Option.toList_some, Option.toList_none, List.cons_append, List.nil_append]
              rw [b17_48, if_neg (by decide), b17_53 (s_g2 S) (s_g3 S) (by rw [r7', zq_rf]) (s_g0 S) (s_g1 S) (by rw [r7', zq_rf, zS_n, S.n]; decide) (by rw [r7', zq_rf, zS_k, S.k, kx_202]; exact zj_n (by omega) (by decide)) (by rw [r7', zq_rf, zS_k, S.k, kx_202]), r7', zq_rf, nc, zS_7, e9, zS_wF, e9']
              simp only [Option.bind_some, Option.toList_some, Option.toList_none, List.cons_append, List.nil_append]
              rw [b17_68 ho]
            by_cases k30 : lK (zh_i h 198) t (lX (zh_i h 198) t (lX (zh_i h 198) t (lX (zh_i h 198) t n))) = 0
            · have D3 := W3.bd k30
              have r101 : zv 4 189 0 [.ref 211, .double 0, .double 0] [] (zP h1 w1 T Fd bR) = some (none, zP h1 w3 T Fd bR) := by
                rw [r94, e7']
                simp only [Option.bind_some, Option.toList_some, Option.toList_none, List.cons_append, List.nil_append]
                rw [b189_101 (p_g0 S1) (p_g1 S1), zP_w (by decide) (by decide), if_neg D3.z, b189_145]
              rcases x_ts S E3.1 (p := p) (A := A) (K := K) (F := up F v (nI y')) (b := b) with ⟨k4', -⟩ | ⟨-, c6⟩
              · omega
              · obtain ⟨m6, e6', c6'⟩ := c6.o
                exact Or.inl ⟨_, by rw [cls (Or.inl rfl) e6']; exact c6', w3, T, Fd, bR, fin D3 r101, D3⟩
            · have w3_13 := (W3.2.2.2.1 k30).1
              have hfm : fm < 3 := by
                refine Decidable.by_contra (fun h9 => ?_)
                have e9 : fm = 3 := by omega
                obtain ⟨c0, -, g0, -, b0, -⟩ := f3 0 (by omega)
                obtain ⟨c1, -, g1, -, b1, -⟩ := f3 1 (by omega)
                obtain ⟨c2, -, g2, -, b2, -⟩ := f3 2 (by omega)
                have x0 := nk 0 (by omega)
                have x1 := nk 1 (by omega)
                have x2 := nk 2 (by omega)
                have x3 := f5 0 1 (by omega) (by omega)
                have x4 := f5 0 2 (by omega) (by omega)
                have x5 := f5 1 2 (by omega) (by omega)
                rw [b0, nI_eq' (by omega) (by omega)] at x0
                rw [b1, nI_eq' (by omega) (by omega)] at x1
                rw [b2, nI_eq' (by omega) (by omega)] at x2
                rw [b0, b1, nI_eq' (by omega) (by omega)] at x3
                rw [b0, b2, nI_eq' (by omega) (by omega)] at x4
                rw [b1, b2, nI_eq' (by omega) (by omega)] at x5
                omega
              have h20 : w3 20 = nI fm := by rw [hh3 20 (by decide), hh2 20 (by decide)]; exact f2
              have r19 : zh_r (zP h1 w3 T Fd bR) 211 19 = .ref 220 := by rw [zP_r, S1.r, rx_211_19]
              have e2 : (2 : Int32) * nI fm = nI (2 * fm) := by have := nI_i2 (a := fm) (i := 0); rw [show nI 0 = 0 from rfl, Int32.add_zero] at this; exact this
              have z6 : ¬ (nI (2 * fm) < 0 ∨ 6 ≤ (nI (2 * fm)).toNatClampNeg) := zj_n (by omega) (by decide)
              have z7 : ¬ (nI (2 * fm + 1) < 0 ∨ 6 ≤ (nI (2 * fm + 1)).toNatClampNeg) := zj_n (by omega) (by decide)
              obtain ⟨Fd2, eFd2⟩ : ∃ Fd2, Fd2 = up (up Fd (2 * fm) (nI v)) (2 * fm + 1) (nI y') := ⟨_, rfl⟩
              obtain ⟨w4, ew4⟩ : ∃ w4, w4 = up w3 20 (nI (fm + 1)) := ⟨_, rfl⟩
              have r101 : zv 4 189 0 [.ref 211, .double 0, .double 0] [] (zP h1 w1 T Fd bR) = some (none, zP h1 w4 T Fd2 bR) := by
                rw [r94, e7']
                simp only [Option.bind_some, Option.toList_some, Option.toList_none, List.cons_append, List.nil_append]
                rw [b189_101 (p_g0 S1) (p_g1 S1), zP_w (by decide) (by decide), if_pos w3_13, b189_109 (p_g0 S1) (p_g1 S1) (by rw [r19, zq_rf]) (by rw [r19, zq_rf, zP_n, S1.n]; decide) (by rw [r19, zq_rf, zP_k, S1.k, kx_220, zP_w (by decide) (by decide), h20, e2]; exact z6) (by rw [r19, zq_rf, zP_k, S1.k, kx_220]), r19, zq_rf, zP_w (by decide) (by decide), h20, e2, nI_clamp (by omega), zP_wF]
                rw [b189_127 (p_g0 S1) (p_g1 S1) (by rw [zP_n, S1.n]; decide) (by rw [zP_k, S1.k, kx_220, zP_w (by decide) (by decide), h20, e2, nI_s]; exact z7) (by rw [zP_k, S1.k, kx_220]), zP_w (by decide) (by decide), h20, e2, nI_s, nI_clamp (by omega), zP_wF, ← eFd2, b189_137 (p_g0 S1) (p_g1 S1) (p_g0 S1) (p_g1 S1), zP_w (by decide) (by decide), h20, nI_s, zP_ww _ (by decide) (by decide), ← ew4, b189_145]
              have W4 : TW (zh_i h 198) w4 t (lX (zh_i h 198) t (lX (zh_i h 198) t (lX (zh_i h 198) t n))) := W3.same (fun j h9 h14 => by rw [ew4, up_n _ _ (by omega)])
              have hw4 : ∀ j, 14 < j → j ≠ 20 → w4 j = w1 j := fun j hj h20 => by rw [ew4, up_n _ _ h20, hh3 j hj, hh2 j hj]
              have D4 : DT p A K (up F v (nI y')) b w4 T Fd2 bR := by
                obtain ⟨v1, l1, l2', e61, e71⟩ := d2
                obtain ⟨m, m1, m2, m3, m4⟩ := d3
                refine ⟨d1, ⟨v1, l1, l2', e61, by rw [hw4 16 (by decide) (by decide)]; exact e71⟩, ⟨m, m1, m2, by rw [hw4 18 (by decide) (by decide)]; exact m3, m4⟩, ⟨fm + 1, by omega, by rw [ew4, up_s], fun k hk => ?_, fun c hc => ?_, fun i j hij hj => ?_⟩, d5⟩
                · by_cases e : k = fm
                  · subst e
                    exact ⟨v, y', by omega, hy, by rw [eFd2, up_n _ _ (by omega), up_s], by rw [eFd2, up_s], up_s _ _ _⟩
                  · obtain ⟨c, q, c3, q9, c4, c5, c6⟩ := f3 k (by omega)
                    have hcv : c ≠ v := fun z => nk k (by omega) (by rw [c4, z])
                    exact ⟨c, q, c3, q9, by rw [eFd2, up_n _ _ (by omega), up_n _ _ (by omega)]; exact c4, by rw [eFd2, up_n _ _ (by omega), up_n _ _ (by omega)]; exact c5, by rw [up_n _ _ hcv]; exact c6⟩
                · by_cases e : c = v
                  · subst e
                    exact Or.inr ⟨fm, by omega, by rw [eFd2, up_n _ _ (by omega), up_s]⟩
                  · rw [up_n _ _ e]
                    rcases f4 c hc with z | ⟨k, k1, k2⟩
                    · exact Or.inl z
                    · exact Or.inr ⟨k, by omega, by rw [eFd2, up_n _ _ (by omega), up_n _ _ (by omega)]; exact k2⟩
                · rw [eFd2, up_n (j := 2 * i) _ _ (by omega), up_n (j := 2 * i) _ _ (by omega)]
                  by_cases e : j = fm
                  · subst e
                    rw [up_n _ _ (by omega), up_s]
                    exact nk i hij
                  · rw [up_n _ _ (by omega), up_n _ _ (by omega)]
                    exact f5 i j hij (by omega)
              have go2 : zv 5 191 17 [.ref 211, u] [.int 3] (zP h1 w T Fd bR) = zv 5 191 121 [.ref 211, .int 3] [] (zP h1 w4 T Fd2 bR) := by
                rw [go, r101]
                simp only [Option.bind_some, Option.toList_some, Option.toList_none, List.cons_append, List.nil_append]
                rw [b191_113]
              rcases y_tl S1 Q hx3 W4 (T := T) (Fd := Fd2) (bR := bR) (x := 3) with ⟨k4, w5, e10, W5, hh5⟩ | ⟨k4, w5, e10, D5⟩
              · rcases x_ts S E3.1 (p := p) (A := A) (K := K) (F := up F v (nI y')) (b := b) with ⟨-, a4, e11, T4⟩ | ⟨k4', -⟩
                · have ge4 := lX_ge (B := zh_i h 198) (t := t) (n := lX (zh_i h 198) t (lX (zh_i h 198) t (lX (zh_i h 198) t n)))
                  have ge5 := lS_ge (B := zh_i h 198) (t := t) (n := lX (zh_i h 198) t (lX (zh_i h 198) t (lX (zh_i h 198) t n)))
                  exact Or.inr ⟨a4, p, A, K, up F v (nI y'), b, w5, T, Fd2, bR, _, cls (Or.inr rfl) e11, by rw [go2, e10], T4, W5, D4.wh hh5, by omega, lX_le hx3, rfl⟩
                · exact absurd k4 k4'
              · rcases x_ts S E3.1 (p := p) (A := A) (K := K) (F := up F v (nI y')) (b := b) with ⟨k4', -⟩ | ⟨-, c6⟩
                · exact absurd k4' k4
                · obtain ⟨m6, e6', c6'⟩ := c6.o
                  exact Or.inl ⟨_, by rw [cls (Or.inl rfl) e6']; exact c6', w5, T, Fd2, bR, by rw [go2, e10], D5⟩
          · exfalso
            rcases yy with yy | ⟨y', -, hy', ey', nv⟩
            · exact yy y3
            · exact nv ⟨Nat.zero_le _, hy'⟩
        · rcases xt2 with ⟨y', y3, hy', -, -, -, -⟩ | ⟨-, c⟩
          · exfalso
            rcases yy with yy | ⟨y, -, hy, ey, nv⟩
            · exact yy y3
            · exact nv ⟨Nat.zero_le _, hy⟩
          · have e7' : zv 3 187 0 [.ref 211, .int 0, .int 99, .double 0] [] (zP h1 w2 T Fd bR) = some (some (.int 0), zP h1 w3 T Fd bR) := e7
            have r101 : zv 4 189 0 [.ref 211, .double 0, .double 0] [] (zP h1 w1 T Fd bR) = some (none, zP h1 w3 T Fd bR) := by
              rw [r94, e7']
              simp only [Option.bind_some, Option.toList_some, Option.toList_none, List.cons_append, List.nil_append]
              rw [b189_101 (p_g0 S1) (p_g1 S1), zP_w (by decide) (by decide), if_neg D3.z, b189_145]
            obtain ⟨m6, e6', c6'⟩ := c.o
            refine Or.inl ⟨_, ?_, w3, T, Fd, bR, fin D3 r101, D3⟩
            have e6'' : zv 4 18 0 [.ref 199, .ref 197, .int 0, .int 99] [] (zS h a2 p A K F b) = some (some (.int 0), m6) := e6'
            rw [cg, if_pos yF, b17_40 (s_g2 S) (s_g3 S), e6'']
            simp only [Option.bind_some, Option.toList_some, Option.toList_none, List.cons_append, List.nil_append]
            rw [b17_48, if_pos rfl, b17_51]
            exact c6'
    · -- no client: a fault in both
      by_cases q3 : lK (zh_i h 198) t (lX (zh_i h 198) t n) = 3
      · obtain ⟨v, hv, ev⟩ := lV_v q3
        have nv : ¬ (0 ≤ v ∧ v ≤ 2) := by
          rcases qq with qq | ⟨v', -, hv', ev', nv⟩
          · exact absurd q3 qq
          · have hvv : v' = v := by rw [ev] at ev'; exact ((nI_eq' (by omega) (by omega)).mp ev').symm
            rw [← hvv]; exact nv
        have w12 : w1 12 = nI v := (W1.2.2.2.2 q3).trans ev
        have D3 : Bd (rqF w1 0 3) (lS (zh_i h 198) t (lX (zh_i h 198) t n)) := W1.rq k0 (c := 3) (by decide) (by decide)
        refine Or.inl ⟨_, bad c, _, T, Fd, bR, fin D3 ?_, D3⟩
        have ni : ¬ (nI 0 ≤ nI v ∧ nI v ≤ nI 2) := fun z => by
          have := Int32.not_lt.mpr z.2
          rw [nI_lt' (by omega) (by omega)] at this
          omega
        rw [b189_0 (p_g0 S1) (p_g1 S1), zP_w (by decide) (by decide), if_pos w13, b189_7 (p_g0 S1) (p_g1 S1), zP_w (by decide) (by decide), w11, q3, if_pos (show nI (3 - 1) = 2 from rfl), b189_16, b189_21 (p_g0 S1) (p_g1 S1), p_rq S1, rq_1]
        simp only [Option.bind_some, Option.toList_some, Option.toList_none, List.cons_append, List.nil_append]
        rw [b189_25 (p_g0 S1) (p_g1 S1), zP_w (by decide) (by decide), if_pos w13, b189_32 (p_g0 S1) (p_g1 S1), zP_w (by decide) (by decide), w12, show (0 : Int64) = (nI 0).toInt64 from rfl, show (2 : Int64) = (nI 2).toInt64 from rfl, c_iz ni]
        simp only [Option.bind_some, Option.toList_some, Option.toList_none, List.cons_append, List.nil_append]
        rw [b189_45 (p_g0 S1) (p_g1 S1), p_rq S1]
        simp only [Option.bind_some, Option.toList_some, Option.toList_none, List.cons_append, List.nil_append]
        exact e49 D3
      · have D2 : Bd (rqF w1 0 2) (lS (zh_i h 198) t (lX (zh_i h 198) t n)) := W1.rq k0 (c := 2) (by decide) (by decide)
        refine Or.inl ⟨_, bad c, _, T, Fd, bR, fin D2 ?_, D2⟩
        rw [b189_0 (p_g0 S1) (p_g1 S1), zP_w (by decide) (by decide), if_pos w13, b189_7 (p_g0 S1) (p_g1 S1), zP_w (by decide) (by decide), w11, if_neg (show ¬ nI (lK (zh_i h 198) t (lX (zh_i h 198) t n) - 1) = 2 from fun z => q3 (by have := (nI_eq' (b := 2) (by omega) (by decide)).mp z; omega)), b189_20, b189_21 (p_g0 S1) (p_g1 S1), p_rq S1]
        simp only [Option.bind_some, Option.toList_some, Option.toList_none, List.cons_append, List.nil_append]
        exact e25 D2
end R34P
