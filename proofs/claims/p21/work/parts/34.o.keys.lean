/-! BOTH SIDES: lines of keys, of a find -/
section R34O
variable {h h1 : zi_Hp} {a p A K F w T Fd : Nat → Int32} {b bR : Bool} {t n : Nat}
theorem CB.o {o : Option zi_Rt} {z : Nat} (c : CB h o z) : ∃ m, o = some (some (.int 0), m) ∧ CB h (some (some (.int 0), m)) z := by
  obtain ⟨a2, p2, A2, K2, F2, b2, rfl, c2⟩ := c
  exact ⟨_, rfl, a2, p2, A2, K2, F2, b2, rfl, c2⟩
/-- no number where a key is wanted: the class -/
theorem x_kN (S : Sh h) (E : TA (zh_i h 198) a t n) (hk : ¬ lK (zh_i h 198) t n = 3) {m i : Nat} (hm : m ≤ 40) (em : p 2 = nI m) (hi : i ≤ 40) {act : Int32} : CB h (zv 4 16 6 [.ref 199, .ref 197, .int act, .int (nI i)] [] (zS h a p A K F b)) (lS (zh_i h 198) t n) := by
  have bad : ∀ {c : Nat}, 1 ≤ c → c ≤ 5 → CB h (zv 4 16 41 [.ref 199, .ref 197, .int act, .int (nI i)] [.int (nI c), .ref 197, .ref 199] (zS h a p A K F b)) (lS (zh_i h 198) t n) := fun {c} c1 c5 => by
    obtain ⟨e1, e2⟩ := CB.re S E (p := p) (A := A) (K := K) (F := F) (b := b) c1 c5
    rw [b16_41 (s_g2 S) (s_g3 S), e1]
    simp only [Option.bind_some, Option.toList_some, Option.toList_none, List.cons_append, List.nil_append]
    rw [b16_44 (Or.inl rfl)]
    exact e2
  have bad27 : CB h (zv 4 16 27 [.ref 199, .ref 197, .int act, .int (nI i)] [] (zS h a p A K F b)) (lS (zh_i h 198) t n) := by
    rw [b16_27 (s_g0 S) (s_g1 S), zS_7]
    by_cases q : a 2 = 0
    · rw [if_pos q, b16_36]; exact bad (c := 1) (by decide) (by decide)
    · rw [if_neg q, b16_40]; exact bad (c := 2) (by decide) (by decide)
  rw [b16_6, if_neg (fun q => by rw [show (40 : Int32) = nI 40 from rfl, nI_lt' (by omega) (by omega)] at q; omega), b16_12 (s_g0 S) (s_g1 S), zS_7]
  by_cases q0 : a 2 = 0
  · rw [if_pos q0]; exact bad27
  · rw [if_neg q0, b16_19 (s_g0 S) (s_g1 S), zS_7]
    by_cases q1 : a 2 = 1
    · rw [if_pos q1]; exact bad27
    · rw [if_neg q1, b16_45 (s_g2 S) (s_g3 S), zS_9, em, if_neg (nI_pos (by omega)), b16_52 (s_g2 S) (s_g3 S), zS_9, em]
      by_cases q4 : nI m < 40
      · obtain ⟨m2, e2, c2⟩ := (x_nwN S E (p := p) (A := A) (K := K) (F := F) (b := b) (k := 3) (fun z => hk ((E.k (by decide)).mp z))).o
        rw [if_pos q4, b16_68 (s_g2 S) (s_g3 S), show (3 : Int32) = nI 3 from rfl, e2]
        simp only [Option.bind_some, Option.toList_some, Option.toList_none, List.cons_append, List.nil_append]
        rw [b16_74, if_pos rfl, b16_77]
        exact c2
      · obtain ⟨e1, e2⟩ := CB.re S E (p := p) (A := A) (K := K) (F := F) (b := b) (c := 5) (by decide) (by decide)
        rw [if_neg q4, b16_61 (s_g2 S) (s_g3 S), show (5 : Int32) = nI 5 from rfl, e1]
        simp only [Option.bind_some, Option.toList_some, Option.toList_none, List.cons_append, List.nil_append]
        rw [b16_67 (Or.inl rfl)]
        exact e2
/-- what the keys of a line leave -/
def KO (h h1 : zi_Hp) (t n : Nat) (p0 : Int32) (F : Nat → Int32) (b : Bool) (Fd : Nat → Int32) (bR : Bool) (oc oo : Option zi_Rt) : Prop :=
  (∃ z, CB h oc z ∧ ∃ w' T', oo = some (none, zP h1 w' T' Fd bR) ∧ (Bd w' z ∨ ∃ n', TW (zh_i h 198) w' t n' ∧ n' ≤ t ∧ ¬ lK (zh_i h 198) t n' = 4 ∧ lS (zh_i h 198) t n' = z))
  ∨ (∃ a' p' A' K' w' T' n', oc = some (some (.int 1), zS h a' p' A' K' F b) ∧ oo = some (none, zP h1 w' T' Fd bR) ∧ TJ a' t (lX (zh_i h 198) t n') ∧ TW (zh_i h 198) w' t n' ∧ lK (zh_i h 198) t n' = 4 ∧ n' ≤ t ∧ n < n' ∧ DT p' A' K' F b w' T' Fd bR ∧ p' 0 = p0)
theorem j_kl (S : Sh h) (S1 : Sh h1) (Q : BT (zh_i h 198) h1 t) {act : Nat} (ha : act ≤ 2) : ∀ d i, i + d = 41 → ∀ {n : Nat} {a p A K w T : Nat → Int32} {m : Nat}, n ≤ t → TA (zh_i h 198) a t n → TW (zh_i h 198) w t n → lK (zh_i h 198) t n = 3 → DT p A K F b w T Fd bR → p 2 = nI m → m ≤ 40 → i ≤ m → KO h h1 t n (p 0) F b Fd bR (zv 4 16 6 [.ref 199, .ref 197, .int (nI act), .int (nI i)] [] (zS h a p A K F b)) (zv 4 190 18 [.ref 211, .int (nI act)] [] (zP h1 w T Fd bR))
  | 0, i, hi, n, a, p, A, K, w, T, m, hn, E, W, hk, D, em, hm, him => by omega
  | d + 1, i, hi, n, a, p, A, K, w, T, m, hn, E, W, hk, D, em, hm, him => by
    obtain ⟨w9, w10, w0, wk, w3⟩ := id W
    obtain ⟨w13, w11⟩ := wk (by omega)
    obtain ⟨d1, d2, ⟨m', m1, m2, m3, m4⟩, d4, d5⟩ := id D
    have emm : m' = m := by rw [em] at m2; exact ((nI_eq' (by omega) (by omega)).mp m2).symm
    subst emm
    have hx1 := lX_le (B := zh_i h 198) hn
    have gt1 := (lX_gt (B := zh_i h 198) (t := t) (n := n) (by omega)).1
    have ge1 := lS_ge (B := zh_i h 198) (t := t) (n := n)
    have i40 : i ≤ 40 := by omega
    have nlt : ¬ 40 < nI i := fun q => by rw [show (40 : Int32) = nI 40 from rfl, nI_lt' (by omega) (by omega)] at q; omega
    have n0 : ¬ a 2 = 0 := fun z => by have := (E.k (k := 0) (by decide)).mp z; omega
    have n1 : ¬ a 2 = 1 := fun z => by have := (E.k (k := 1) (by decide)).mp z; omega
    have cg : zv 4 16 6 [.ref 199, .ref 197, .int (nI act), .int (nI i)] [] (zS h a p A K F b) = if nI m' < 40 then zv 4 16 68 [.ref 199, .ref 197, .int (nI act), .int (nI i)] [] (zS h a p A K F b) else zv 4 16 61 [.ref 199, .ref 197, .int (nI act), .int (nI i)] [] (zS h a p A K F b) := by
      rw [b16_6, if_neg nlt, b16_12 (s_g0 S) (s_g1 S), zS_7, if_neg n0, b16_19 (s_g0 S) (s_g1 S), zS_7, if_neg n1, b16_45 (s_g2 S) (s_g3 S), zS_9, em, if_neg (nI_pos (by omega)), b16_52 (s_g2 S) (s_g3 S), zS_9, em]
    have rg9 : zv 4 190 18 [.ref 211, .int (nI act)] [] (zP h1 w T Fd bR) = if nI m' < 40 then zv 4 190 59 [.ref 211, .int (nI act)] [] (zP h1 w T Fd bR) else zv 4 190 18 [.ref 211, .int (nI act)] [] (zP h1 (rqF w 0 5) T Fd bR) := by
      rw [b190_18 (p_g0 S1) (p_g1 S1), zP_w (by decide) (by decide), if_pos w13, b190_25 (p_g0 S1) (p_g1 S1), zP_w (by decide) (by decide), w11, hk, if_pos (show nI (3 - 1) = 2 from rfl), b190_33 (p_g0 S1) (p_g1 S1), zP_w (by decide) (by decide), m3]
      by_cases q : nI m' < 40
      · rw [if_pos q, if_pos q, b190_43, b190_48 (p_g0 S1) (p_g1 S1), p_rq S1, rq_1]
        simp only [Option.bind_some, Option.toList_some, Option.toList_none, List.cons_append, List.nil_append]
        rw [b190_52 (p_g0 S1) (p_g1 S1), zP_w (by decide) (by decide), if_pos w13]
      · rw [if_neg q, if_neg q, b190_47, b190_48 (p_g0 S1) (p_g1 S1), p_rq S1]
        simp only [Option.bind_some, Option.toList_some, Option.toList_none, List.cons_append, List.nil_append]
        have D5 : Bd (rqF w 0 5) (lS (zh_i h 198) t n) := W.rq (by omega) (c := 5) (by decide) (by decide)
        rw [b190_52 (p_g0 S1) (p_g1 S1), zP_w (by decide) (by decide), if_neg D5.z]
    by_cases q4 : nI m' < 40
    · have m40 : m' < 40 := (nI_lt' (b := 40) (by omega) (by decide)).mp q4
      obtain ⟨v, hv, ev⟩ := lV_v hk
      have ew : a 4 = nI v := (E.2.2.2 hk).trans ev
      have r5 : ∀ {A K : Nat → Int32}, zh_r (zS h a p A K F b) 199 5 = .ref 200 := fun {A K} => by rw [zS_r, S.r, rx_199_5]
      have r6 : ∀ {A K : Nat → Int32}, zh_r (zS h a p A K F b) 199 6 = .ref 201 := fun {A K} => by rw [zS_r, S.r, rx_199_6]
      have zz : ¬ (nI m' < 0 ∨ 40 ≤ (nI m').toNatClampNeg) := zj_n m40 (by decide)
      have nc : (nI m').toNatClampNeg = m' := nI_clamp (by omega)
      obtain ⟨A2, eA2⟩ : ∃ A2, A2 = up A m' (nI act) := ⟨_, rfl⟩
      obtain ⟨K2, eK2⟩ : ∃ K2, K2 = up K m' (nI v) := ⟨_, rfl⟩
      obtain ⟨p2, ep2⟩ : ∃ p2, p2 = up p 2 (nI (m' + 1)) := ⟨_, rfl⟩
      obtain ⟨a2, e5, E2⟩ := x_sc S E.1 (p := p2) (A := A2) (K := K2) (F := F) (b := b) (u := .double 0)
      have cgo : zv 4 16 6 [.ref 199, .ref 197, .int (nI act), .int (nI i)] [] (zS h a p A K F b) = if a2 2 = 4 then some (some (.int 1), zS h a2 p2 A2 K2 F b) else zv 4 16 6 [.ref 199, .ref 197, .int (nI act), .int (nI (i + 1))] [] (zS h a2 p2 A2 K2 F b) := by
        rw [cg, if_pos q4, b16_68 (s_g2 S) (s_g3 S), show (3 : Int32) = nI 3 from rfl, x_nwY S ((E.k (by decide)).mpr hk)]
        simp only [Option.bind_some, Option.toList_some, Option.toList_none, List.cons_append, List.nil_append]
        rw [b16_74, if_neg (by decide), b16_79 (s_g2 S) (s_g3 S) (by rw [r5, zq_rf]) (by rw [r5, zq_rf, zS_n, S.n]; decide) (by rw [r5, zq_rf, zS_k, S.k, kx_200, zS_9, em]; exact zz) (by rw [r5, zq_rf, zS_k, S.k, kx_200]) (by rw [r6, zq_rf]), r5, r6, zq_rf, zq_rf, zS_9, em, nc, zS_wA, ← eA2, b16_94 (s_g2 S) (s_g3 S) (s_g0 S) (s_g1 S) (by rw [zS_n, S.n]; decide) (by rw [zS_k, S.k, kx_201, zS_9, em]; exact zz) (by rw [zS_k, S.k, kx_201]), zS_9, em, nc, zS_7, ew, zS_wK, ← eK2, b16_104 (s_g2 S) (s_g3 S) (s_g2 S) (s_g3 S) (s_g0 S) (s_g1 S), zS_9, em, nI_s, zS_w9, ← ep2, e5]
        simp only [Option.bind_some, Option.toList_some, Option.toList_none, List.cons_append, List.nil_append]
        rw [b16_116 (s_g0 S) (s_g1 S), zS_7, b16_124, b16_126, nI_s]
      -- the reference
      have r17 : zh_r (zP h1 w T Fd bR) 211 17 = .ref 219 := by rw [zP_r, S1.r, rx_211_17]
      have e2 : (2 : Int32) * nI m' = nI (2 * m') := by have := nI_i2 (a := m') (i := 0); rw [show nI 0 = 0 from rfl, Int32.add_zero] at this; exact this
      have z6 : ¬ (nI (2 * m') < 0 ∨ 80 ≤ (nI (2 * m')).toNatClampNeg) := zj_n (by omega) (by decide)
      have z7 : ¬ (nI (2 * m' + 1) < 0 ∨ 80 ≤ (nI (2 * m' + 1)).toNatClampNeg) := zj_n (by omega) (by decide)
      rcases y_rn S1 Q hn W (T := up T (2 * m') (nI act)) (Fd := Fd) (bR := bR) (lo := 0) (hi := 99) (by decide) (by decide) (u := .double 0) with ⟨v', -, hv', ev', -, -, w4, e4, W4, hw4⟩ | ⟨qq, -⟩
      · have hvv : v' = v := by rw [ev] at ev'; exact ((nI_eq' (by omega) (by omega)).mp ev').symm
        subst hvv
        have h18' : w4 18 = nI m' := by rw [hw4 18 (by decide)]; exact m3
        have e4' : zv 3 187 0 [.ref 211, .int 0, .int 99, .double 0] [] (zP h1 w (up T (2 * m') (nI act)) Fd bR) = some (some (.int (nI v')), zP h1 w4 (up T (2 * m') (nI act)) Fd bR) := e4
        obtain ⟨T2, eT2⟩ : ∃ T2, T2 = up (up T (2 * m') (nI act)) (2 * m' + 1) (nI v') := ⟨_, rfl⟩
        obtain ⟨w5, ew5⟩ : ∃ w5, w5 = up w4 18 (nI (m' + 1)) := ⟨_, rfl⟩
        have rgo : zv 4 190 18 [.ref 211, .int (nI act)] [] (zP h1 w T Fd bR) = zv 4 190 18 [.ref 211, .int (nI act)] [] (zP h1 w5 T2 Fd bR) := by
          rw [rg9, if_pos q4, b190_59 (p_g0 S1) (p_g1 S1) (by rw [r17, zq_rf]) (by rw [r17, zq_rf, zP_n, S1.n]; decide) (by rw [r17, zq_rf, zP_k, S1.k, kx_219, zP_w (by decide) (by decide), m3, e2]; exact z6) (by rw [r17, zq_rf, zP_k, S1.k, kx_219]), r17, zq_rf, zP_w (by decide) (by decide), m3, e2, nI_clamp (by omega), zP_wT, b190_77 (p_g0 S1) (p_g1 S1) (p_g0 S1) (p_g1 S1), zP_w (by decide) (by decide), m3, e2, nI_s, e4']
          simp only [Option.bind_some, Option.toList_some, Option.toList_none, List.cons_append, List.nil_append]
          rw [b190_90 (by rw [zP_n, S1.n]; decide) (by rw [zP_k, S1.k, kx_219]; exact z7) (by rw [zP_k, S1.k, kx_219]), nI_clamp (by omega), zP_wT, ← eT2, b190_93 (p_g0 S1) (p_g1 S1) (p_g0 S1) (p_g1 S1), zP_w (by decide) (by decide), h18', nI_s, zP_ww _ (by decide) (by decide), ← ew5]
        have W5 : TW (zh_i h 198) w5 t (lX (zh_i h 198) t n) := W4.same (fun j h9 h14 => by rw [ew5, up_n _ _ (by omega)])
        have D5 : DT p2 A2 K2 F b w5 T2 Fd bR := by
          refine ⟨d1, ?_, ⟨m' + 1, by omega, by rw [ep2, up_s], by rw [ew5, up_s], fun j hj => ?_⟩, ?_, ?_⟩
          · obtain ⟨v1, l1, l2, e6, e7⟩ := d2
            exact ⟨v1, l1, l2, by rw [ep2, up_n _ _ (by decide)]; exact e6, by rw [ew5, up_n _ _ (by decide), hw4 16 (by decide)]; exact e7⟩
          · by_cases z : j = m'
            · subst z
              exact ⟨⟨act, ha, by rw [eA2, up_s], by rw [eT2, up_n _ _ (by omega), up_s]⟩, v', hv, by rw [eK2, up_s], by rw [eT2, up_s]⟩
            · obtain ⟨⟨a3, l3, e3, f3⟩, q3, l4, e4, f4⟩ := m4 j (by omega)
              exact ⟨⟨a3, l3, by rw [eA2, up_n _ _ z]; exact e3, by rw [eT2, up_n _ _ (by omega), up_n _ _ (by omega)]; exact f3⟩, q3, l4, by rw [eK2, up_n _ _ z]; exact e4, by rw [eT2, up_n _ _ (by omega), up_n _ _ (by omega)]; exact f4⟩
          · obtain ⟨fm, f1, f2, f3⟩ := d4
            exact ⟨fm, f1, by rw [ew5, up_n _ _ (by decide), hw4 20 (by decide)]; exact f2, f3⟩
          · rw [ep2, up_n _ _ (by decide)]; exact d5
        have ep0 : p2 0 = p 0 := by rw [ep2, up_n _ _ (by decide)]
        rw [cgo, rgo]
        by_cases k4 : lK (zh_i h 198) t (lX (zh_i h 198) t n) = 4
        · have w11' := (W5.2.2.2.1 (by omega))
          rw [if_pos (show a2 2 = 4 from (E2.k (k := 4) (by decide)).mpr k4)]
          refine Or.inr ⟨a2, p2, A2, K2, w5, T2, _, rfl, ?_, E2.1, W5, k4, hx1, by omega, D5, ep0⟩
          rw [b190_18 (p_g0 S1) (p_g1 S1), zP_w (by decide) (by decide), if_pos w11'.1, b190_25 (p_g0 S1) (p_g1 S1), zP_w (by decide) (by decide), w11'.2, k4, if_neg (by decide), b190_104]
        · rw [if_neg (show ¬ a2 2 = 4 from fun z => k4 ((E2.k (k := 4) (by decide)).mp z))]
          by_cases k3 : lK (zh_i h 198) t (lX (zh_i h 198) t n) = 3
          · rcases j_kl S S1 Q ha d (i + 1) (by omega) hx1 E2 W5 k3 D5 (by rw [ep2, up_s]) (by omega) (by omega) with ⟨z, c, w', T', e6, o⟩ | ⟨a', p', A', K', w', T', n', c1, c2, c3, c4, c5, c6, c7, c8, c9⟩
            · exact Or.inl ⟨z, c, w', T', e6, o⟩
            · exact Or.inr ⟨a', p', A', K', w', T', n', c1, c2, c3, c4, c5, c6, by omega, c8, c9.trans ep0⟩
          · have c := x_kN S E2 k3 (p := p2) (A := A2) (K := K2) (F := F) (b := b) (m := m' + 1) (by omega) (by rw [ep2, up_s]) (i := i + 1) (by omega) (act := nI act)
            refine Or.inl ⟨_, c, w5, T2, ?_, Or.inr ⟨_, W5, hx1, k4, rfl⟩⟩
            rw [b190_18 (p_g0 S1) (p_g1 S1), zP_w (by decide) (by decide)]
            by_cases k0 : lK (zh_i h 198) t (lX (zh_i h 198) t n) = 0
            · rw [if_neg (W5.bd k0).z, b190_104]
            · have w11' := (W5.2.2.2.1 k0)
              have hK := lK_le (B := zh_i h 198) (t := t) (n := lX (zh_i h 198) t n)
              rw [if_pos w11'.1, b190_25 (p_g0 S1) (p_g1 S1), zP_w (by decide) (by decide), w11'.2, if_neg (show ¬ nI (lK (zh_i h 198) t (lX (zh_i h 198) t n) - 1) = 2 from fun z => k3 (by have := (nI_eq' (b := 2) (by omega) (by decide)).mp z; omega)), b190_104]
      · exfalso
        rcases qq with qq | ⟨v', -, hv', ev', nv⟩
        · exact qq hk
        · exact nv ⟨by omega, hv'⟩
    · obtain ⟨e1, c1⟩ := CB.re S E (p := p) (A := A) (K := K) (F := F) (b := b) (c := 5) (by decide) (by decide)
      have D5 : Bd (rqF w 0 5) (lS (zh_i h 198) t n) := W.rq (by omega) (c := 5) (by decide) (by decide)
      refine Or.inl ⟨lS (zh_i h 198) t n, ?_, _, T, ?_, Or.inl D5⟩
      · rw [cg, if_neg q4, b16_61 (s_g2 S) (s_g3 S), show (5 : Int32) = nI 5 from rfl, e1]
        simp only [Option.bind_some, Option.toList_some, Option.toList_none, List.cons_append, List.nil_append]
        rw [b16_67 (Or.inl rfl)]
        exact c1
      · rw [rg9, if_neg q4, b190_18 (p_g0 S1) (p_g1 S1), zP_w (by decide) (by decide), if_neg D5.z, b190_104]
theorem j_keys (S : Sh h) (S1 : Sh h1) (Q : BT (zh_i h 198) h1 t) {act : Nat} (ha : act ≤ 2) (ha1 : 1 ≤ act) (hn : n ≤ t) (E : TA (zh_i h 198) a t n) (W : TW (zh_i h 198) w t n) (hk : lK (zh_i h 198) t n = 2) (D : DT p A K F b w T Fd bR) {u u' : Value} : BO h h1 t n (p 0) (zv 4 16 0 [.ref 199, .ref 197, .int (nI act), u'] [] (zS h a p A K F b)) (zv 5 191 17 [.ref 211, u] [.int (nI act)] (zP h1 w T Fd bR)) := by
  have hx1 := lX_le (B := zh_i h 198) hn
  have gt1 := (lX_gt (B := zh_i h 198) (t := t) (n := n) (by omega)).1
  have ge1 := lS_ge (B := zh_i h 198) (t := t) (n := n)
  have a0 : ¬ nI act = 0 := fun z => by have := (nI_eq' (b := 0) (by omega) (by decide)).mp z; omega
  have a3 : ¬ nI act = 3 := fun z => by have := (nI_eq' (b := 3) (by omega) (by decide)).mp z; omega
  obtain ⟨w1, W1, hh1, cs⟩ := y_pr2 S1 Q hn W (T := T) (Fd := Fd) (bR := bR) (by omega) (x := nI act) (nI_n4 _ (by omega)) (fun z => a0 z.1) (u := u)
  rw [decide_eq_false a0, Bool.or_false] at cs
  obtain ⟨a2, e5, E2⟩ := x_sc S E.1 (p := p) (A := A) (K := K) (F := F) (b := b) (u := .double 0)
  have cg : zv 4 16 0 [.ref 199, .ref 197, .int (nI act), u'] [] (zS h a p A K F b) = zv 4 16 6 [.ref 199, .ref 197, .int (nI act), .int (nI 0)] [] (zS h a2 p A K F b) := by
    rw [b16_0 (s_g0 S) (s_g1 S), e5]
    simp only [Option.bind_some, Option.toList_some, Option.toList_none, List.cons_append, List.nil_append]
    rw [b16_4]; rfl
  have D1 : DT p A K F b w1 T Fd bR := D.wh hh1
  obtain ⟨-, -, ⟨m, m1, m2, -, -⟩, -, -⟩ := id D
  rw [cg]
  rcases cs with ⟨k0, e0⟩ | ⟨k0, e0⟩
  · exact Or.inl ⟨_, x_kN S E2 (by omega) m1 m2 (by omega), w1, T, Fd, bR, e0, W1.bd k0⟩
  · have go : zv 5 191 17 [.ref 211, u] [.int (nI act)] (zP h1 w T Fd bR) = (zv 4 190 0 [.ref 211, .int (nI act)] [] (zP h1 w1 T Fd bR)).bind fun r => zv 5 191 121 [.ref 211, .int (nI act)] (r.1.toList ++ []) r.2 := by
      rw [e0, b191_87, if_neg a0, b191_104, if_neg a3, b191_116 (p_g0 S1) (p_g1 S1)]
    obtain ⟨w13, w11⟩ := W1.2.2.2.1 k0
    have hK := lK_le (B := zh_i h 198) (t := t) (n := lX (zh_i h 198) t n)
    have fin : ∀ {w' T' : Nat → Int32} {z : Nat}, (Bd w' z ∨ ∃ n', TW (zh_i h 198) w' t n' ∧ n' ≤ t ∧ ¬ lK (zh_i h 198) t n' = 4 ∧ lS (zh_i h 198) t n' = z) → ∃ w2, zv 5 191 121 [.ref 211, .int (nI act)] [] (zP h1 w' T' Fd bR) = some (none, zP h1 w2 T' Fd bR) ∧ Bd w2 z := fun {w' T' z} o => by
      rcases o with D9 | ⟨n', W9, hn9, k9, rfl⟩
      · exact ⟨w', y_tlB S1 D9, D9⟩
      · rcases y_tl S1 Q hn9 W9 (T := T') (Fd := Fd) (bR := bR) (x := nI act) with ⟨k, -⟩ | ⟨-, w2, e2, D2⟩
        · exact absurd k k9
        · exact ⟨w2, e2, D2⟩
    by_cases k3 : lK (zh_i h 198) t (lX (zh_i h 198) t n) = 3
    · have e190 : zv 4 190 0 [.ref 211, .int (nI act)] [] (zP h1 w1 T Fd bR) = zv 4 190 18 [.ref 211, .int (nI act)] [] (zP h1 w1 T Fd bR) := by
        rw [b190_0 (p_g0 S1) (p_g1 S1), zP_w (by decide) (by decide), w11, k3, if_pos (show nI (3 - 1) = 2 from rfl), b190_9, b190_14 (p_g0 S1) (p_g1 S1), p_rq S1, rq_1]
        simp only [Option.bind_some, Option.toList_some, Option.toList_none, List.cons_append, List.nil_append]
      rcases j_kl S S1 Q ha (F := F) (b := b) (Fd := Fd) (bR := bR) 41 0 rfl hx1 E2 W1 k3 D1 m2 m1 (Nat.zero_le _) with ⟨z, c, w', T', e6, o⟩ | ⟨a', p', A', K', w', T', n', c1, c2, c3, c4, c5, c6, c7, c8, c9⟩
      · obtain ⟨w2, e7, D7⟩ := fin (T' := T') o
        refine Or.inl ⟨z, c, w2, T', Fd, bR, ?_, D7⟩
        rw [go, e190, e6]
        simp only [Option.bind_some, Option.toList_some, Option.toList_none, List.cons_append, List.nil_append]
        exact e7
      · rcases y_tl S1 Q c6 c4 (T := T') (Fd := Fd) (bR := bR) (x := nI act) with ⟨-, w2, e7, W7, hh7⟩ | ⟨k, -⟩
        · have ge3 := lX_ge (B := zh_i h 198) (t := t) (n := n')
          have ge4 := lS_ge (B := zh_i h 198) (t := t) (n := n')
          refine Or.inr ⟨a', p', A', K', F, b, w2, T', Fd, bR, _, c1, ?_, c3, W7, c8.wh hh7, by omega, lX_le c6, c9⟩
          rw [go, e190, c2]
          simp only [Option.bind_some, Option.toList_some, Option.toList_none, List.cons_append, List.nil_append]
          exact e7
        · exact absurd c5 k
    · have D2 : Bd (rqF w1 0 2) (lS (zh_i h 198) t (lX (zh_i h 198) t n)) := W1.rq k0 (c := 2) (by decide) (by decide)
      refine Or.inl ⟨_, x_kN S E2 k3 m1 m2 (by omega), _, T, Fd, bR, ?_, D2⟩
      rw [go, b190_0 (p_g0 S1) (p_g1 S1), zP_w (by decide) (by decide), w11, if_neg (show ¬ nI (lK (zh_i h 198) t (lX (zh_i h 198) t n) - 1) = 2 from fun z => k3 (by have := (nI_eq' (b := 2) (by omega) (by decide)).mp z; omega)), b190_13, b190_14 (p_g0 S1) (p_g1 S1), p_rq S1]
      simp only [Option.bind_some, Option.toList_some, Option.toList_none, List.cons_append, List.nil_append]
      rw [b190_18 (p_g0 S1) (p_g1 S1), zP_w (by decide) (by decide), if_neg D2.z, b190_104]
      simp only [Option.bind_some, Option.toList_some, Option.toList_none, List.cons_append, List.nil_append]
      exact y_tlB S1 D2
end R34O
