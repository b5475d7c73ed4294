/-! BOTH SIDES: names, numbers, stops -/
/-- a fault is told, at z -/
def Bd (w : Nat → Int32) (z : Nat) : Prop := 0 < w 13 ∧ w 14 = nI z
/-- the class refuses, at z -/
def CB (h : zi_Hp) (o : Option zi_Rt) (z : Nat) : Prop := ∃ a' p' A' K' F' b', o = some (some (.int 0), zS h a' p' A' K' F' b') ∧ (∃ c, 1 ≤ c ∧ c ≤ 5 ∧ p' 3 = nI c) ∧ p' 4 = nI z
section R34M
variable {h h1 : zi_Hp} {a p A K F w T Fd : Nat → Int32} {b bR : Bool} {t n : Nat}
theorem TJ.tx (Q : TA (zh_i h 198) a t n) : TJ a t (lX (zh_i h 198) t n) := Q.1
theorem CB.re (S : Sh h) (Q : TA (zh_i h 198) a t n) {c : Nat} (hc1 : 1 ≤ c) (hc : c ≤ 5) : zv 1 21 0 [.ref 199, .ref 197, .int (nI c)] [] (zS h a p A K F b) = some (some (.int 0), zS h a (up (up p 3 (nI c)) 4 (a 3)) A K F b) ∧ CB h (some (some (.int 0), zS h a (up (up p 3 (nI c)) 4 (a 3)) A K F b)) (lS (zh_i h 198) t n) :=
  ⟨s_re S, a, _, A, K, F, b, rfl, ⟨c, hc1, hc, by rw [up_n _ _ (by decide), up_s]⟩, by rw [up_s]; exact Q.2.2.1⟩
theorem x_nwY (S : Sh h) {k : Nat} (e : a 2 = nI k) : zv 2 20 0 [.ref 199, .ref 197, .int (nI k)] [] (zS h a p A K F b) = some (some (.int 1), zS h a p A K F b) := by
  rw [b20_0 (s_g0 S) (s_g1 S), zS_7, if_pos e, b20_28, b20_33 (Or.inr rfl)]
theorem x_nwN (S : Sh h) (Q : TA (zh_i h 198) a t n) {k : Nat} (e : ¬ a 2 = nI k) : CB h (zv 2 20 0 [.ref 199, .ref 197, .int (nI k)] [] (zS h a p A K F b)) (lS (zh_i h 198) t n) := by
  have go : ∀ {c : Nat}, 1 ≤ c → c ≤ 5 → CB h (zv 2 20 22 [.ref 199, .ref 197, .int (nI k)] [.int (nI c), .ref 197, .ref 199] (zS h a p A K F b)) (lS (zh_i h 198) t n) := fun {c} h1 h5 => by
    obtain ⟨e1, e2⟩ := CB.re S Q (p := p) (A := A) (K := K) (F := F) (b := b) h1 h5
    rw [b20_22 (s_g2 S) (s_g3 S), e1]
    simp only [Option.bind_some, Option.toList_some, Option.toList_none, List.cons_append, List.nil_append]
    rw [b20_25, if_pos rfl, b20_32, b20_33 (Or.inl rfl)]
    exact e2
  rw [b20_0 (s_g0 S) (s_g1 S), zS_7, if_neg e, b20_8 (s_g0 S) (s_g1 S), zS_7]
  by_cases q0 : a 2 = 0
  · rw [if_pos q0, b20_17]; exact go (c := 1) (by decide) (by decide)
  · rw [if_neg q0, b20_21]; exact go (c := 2) (by decide) (by decide)
theorem TA.k (Q : TA (zh_i h 198) a t n) {k : Nat} (hk : k ≤ 4) : a 2 = nI k ↔ lK (zh_i h 198) t n = k := by
  have := lK_le (B := zh_i h 198) (t := t) (n := n)
  rw [Q.2.1, nI_eq' (by omega) (by omega)]
theorem x_ts (S : Sh h) (Q : TJ a t n) : (lK (zh_i h 198) t n = 4 ∧ ∃ a', zv 4 19 0 [.ref 199, .ref 197] [] (zS h a p A K F b) = some (some (.int 1), zS h a' p A K F b) ∧ TJ a' t (lX (zh_i h 198) t n)) ∨ (¬ lK (zh_i h 198) t n = 4 ∧ CB h (zv 4 19 0 [.ref 199, .ref 197] [] (zS h a p A K F b)) (lS (zh_i h 198) t n)) := by
  obtain ⟨a', e, Q'⟩ := x_sc S Q (p := p) (A := A) (K := K) (F := F) (b := b) (u := .double 0)
  have go : ∀ {v : Int32} {m : zi_Hp}, (v = 0 ∨ v = 1) → zv 2 20 0 [.ref 199, .ref 197, .int (nI 4)] [] (zS h a' p A K F b) = some (some (.int v), m) → zv 4 19 0 [.ref 199, .ref 197] [] (zS h a p A K F b) = some (some (.int v), m) := fun {v m} hv e2 => by
    rw [b19_0 (s_g0 S) (s_g1 S), e]
    simp only [Option.bind_some, Option.toList_some, Option.toList_none, List.cons_append, List.nil_append]
    rw [b19_4 (s_g2 S) (s_g3 S), show (4 : Int32) = nI 4 from rfl, e2]
    simp only [Option.bind_some, Option.toList_some, Option.toList_none, List.cons_append, List.nil_append]
    rw [b19_10 hv]
  by_cases q : lK (zh_i h 198) t n = 4
  · exact Or.inl ⟨q, a', go (Or.inr rfl) (x_nwY S ((Q'.k (by decide)).mpr q)), Q'.1⟩
  · obtain ⟨a2, p2, A2, K2, F2, b2, e2, c2⟩ := x_nwN S Q' (p := p) (A := A) (K := K) (F := F) (b := b) (k := 4) (fun z => q ((Q'.k (by decide)).mp z))
    exact Or.inr ⟨q, a2, p2, A2, K2, F2, b2, go (Or.inl rfl) e2, c2⟩
theorem x_tn (S : Sh h) (Q : TJ a t n) {lo hi : Nat} (hlo : lo ≤ 99) (hhi : hi ≤ 99) : (∃ v, lK (zh_i h 198) t n = 3 ∧ v ≤ 99 ∧ lVv (zh_i h 198) (lS (zh_i h 198) t n) (lX (zh_i h 198) t n - lS (zh_i h 198) t n) = nI v ∧ lo ≤ v ∧ v ≤ hi ∧ ∃ a', zv 4 18 0 [.ref 199, .ref 197, .int (nI lo), .int (nI hi)] [] (zS h a p A K F b) = some (some (.int 1), zS h a' p A K F b) ∧ TA (zh_i h 198) a' t n ∧ a' 4 = nI v) ∨ ((¬ lK (zh_i h 198) t n = 3 ∨ ∃ v, lK (zh_i h 198) t n = 3 ∧ v ≤ 99 ∧ lVv (zh_i h 198) (lS (zh_i h 198) t n) (lX (zh_i h 198) t n - lS (zh_i h 198) t n) = nI v ∧ ¬ (lo ≤ v ∧ v ≤ hi)) ∧ CB h (zv 4 18 0 [.ref 199, .ref 197, .int (nI lo), .int (nI hi)] [] (zS h a p A K F b)) (lS (zh_i h 198) t n)) := by
  obtain ⟨a', e, Q'⟩ := x_sc S Q (p := p) (A := A) (K := K) (F := F) (b := b) (u := .double 0)
  have go : zv 4 18 0 [.ref 199, .ref 197, .int (nI lo), .int (nI hi)] [] (zS h a p A K F b) = (zv 2 20 0 [.ref 199, .ref 197, .int (nI 3)] [] (zS h a' p A K F b)).bind fun r => zv 4 18 10 [.ref 199, .ref 197, .int (nI lo), .int (nI hi)] (r.1.toList ++ []) r.2 := by
    rw [b18_0 (s_g0 S) (s_g1 S), e]
    simp only [Option.bind_some, Option.toList_some, Option.toList_none, List.cons_append, List.nil_append]
    rw [b18_4 (s_g2 S) (s_g3 S)]; rfl
  by_cases q : lK (zh_i h 198) t n = 3
  · obtain ⟨v, hv, ev⟩ := lV_v q
    have e4 : a' 4 = nI v := (Q'.2.2.2 q).trans ev
    have bad : CB h (zv 4 18 31 [.ref 199, .ref 197, .int (nI lo), .int (nI hi)] [] (zS h a' p A K F b)) (lS (zh_i h 198) t n) := by
      obtain ⟨e1, e2⟩ := CB.re S Q' (p := p) (A := A) (K := K) (F := F) (b := b) (c := 3) (by decide) (by decide)
      rw [b18_31 (s_g2 S) (s_g3 S), show (3 : Int32) = nI 3 from rfl, e1]
      simp only [Option.bind_some, Option.toList_some, Option.toList_none, List.cons_append, List.nil_append]
      rw [b18_37, if_pos rfl, b18_44, b18_45 (Or.inl rfl)]
      exact e2
    have g2 : zv 4 18 0 [.ref 199, .ref 197, .int (nI lo), .int (nI hi)] [] (zS h a p A K F b) = if nI v < nI lo then zv 4 18 31 [.ref 199, .ref 197, .int (nI lo), .int (nI hi)] [] (zS h a' p A K F b) else if nI hi < nI v then zv 4 18 31 [.ref 199, .ref 197, .int (nI lo), .int (nI hi)] [] (zS h a' p A K F b) else some (some (.int 1), zS h a' p A K F b) := by
      rw [go, x_nwY S ((Q'.k (by decide)).mpr q)]
      simp only [Option.bind_some, Option.toList_some, Option.toList_none, List.cons_append, List.nil_append]
      rw [b18_10, if_neg (by decide), b18_15 (s_g0 S) (s_g1 S), zS_7, e4, b18_23 (s_g0 S) (s_g1 S), zS_7, e4, b18_40, b18_45 (Or.inr rfl)]
    by_cases q1 : nI v < nI lo
    · rw [g2, if_pos q1]
      rw [nI_lt' (by omega) (by omega)] at q1
      exact Or.inr ⟨Or.inr ⟨v, q, hv, ev, fun z => by omega⟩, bad⟩
    · by_cases q2 : nI hi < nI v
      · rw [g2, if_neg q1, if_pos q2]
        rw [nI_lt' (by omega) (by omega)] at q2
        exact Or.inr ⟨Or.inr ⟨v, q, hv, ev, fun z => by omega⟩, bad⟩
      · rw [g2, if_neg q1, if_neg q2]
        rw [nI_lt' (by omega) (by omega)] at q1 q2
        exact Or.inl ⟨v, q, hv, ev, by omega, by omega, a', rfl, Q', e4⟩
  · obtain ⟨a2, p2, A2, K2, F2, b2, e2, c2⟩ := x_nwN S Q' (p := p) (A := A) (K := K) (F := F) (b := b) (k := 3) (fun z => q ((Q'.k (by decide)).mp z))
    refine Or.inr ⟨Or.inl q, a2, p2, A2, K2, F2, b2, ?_, c2⟩
    rw [go, e2]
    simp only [Option.bind_some, Option.toList_some, Option.toList_none, List.cons_append, List.nil_append]
    rw [b18_10, if_pos rfl, b18_13]
/-- is the token this word, by the class -/
theorem x_nm (S : Sh h) (Q : TA (zh_i h 198) a t n) (hn : n ≤ t) {k : Nat} (hk : 1 ≤ k ∧ k < 5) : ∃ v : Bool, (∀ u : Value, zv 2 32 0 [.ref 197, .retAddr k, u] [] (zS h a p A K F b) = some (some (.int (zi_bI v)), zS h a p A K F b)) ∧ (v = true ↔ (lK (zh_i h 198) t n = 2 ∧ lX (zh_i h 198) t n - lS (zh_i h 198) t n = zi_sl k ∧ ∀ i, i < zi_sl k → zh_i h 198 (lS (zh_i h 198) t n + i) = zi_sc k i)) := by
  have h4 := sl_4 hk
  have hx := lX_ge (B := zh_i h 198) (t := t) (n := n)
  have hxt := lX_le (B := zh_i h 198) hn
  have ht := Q.1.1
  by_cases q2 : lK (zh_i h 198) t n = 2
  · have go : ∀ u : Value, zv 2 32 0 [.ref 197, .retAddr k, u] [] (zS h a p A K F b) = if lX (zh_i h 198) t n - lS (zh_i h 198) t n = zi_sl k then zv 2 32 28 [.ref 197, .retAddr k, .int (nI 0)] [] (zS h a p A K F b) else some (some (.int 0), zS h a p A K F b) := fun u => by
      rw [b32_0 (s_g0 S) (s_g1 S), zS_7, if_pos (show a 2 = 2 from (Q.k (k := 2) (by decide)).mpr q2), b32_8 (s_g0 S) (s_g1 S) hk, zS_7, zS_7, Q.1.2.2.2, Q.2.2.1, nI_sub hx, b32_24, b32_26]
      by_cases q : lX (zh_i h 198) t n - lS (zh_i h 198) t n = zi_sl k
      · rw [if_pos q, if_pos (show nI (lX (zh_i h 198) t n - lS (zh_i h 198) t n) = Int32.ofNat (zi_sl k) by rw [q]; rfl)]; rfl
      · rw [if_neg q, if_neg (show ¬ nI (lX (zh_i h 198) t n - lS (zh_i h 198) t n) = Int32.ofNat (zi_sl k) from fun z => q ((nI_eq' (by omega) (by omega)).mp z))]
    by_cases q : lX (zh_i h 198) t n - lS (zh_i h 198) t n = zi_sl k
    · obtain ⟨v, ev, hv⟩ := lpE (α := Unit) 0 (F := fun _ i => zv 2 32 28 [.ref 197, .retAddr k, .int i] [] (zS h a p A K F b)) (E := fun v => some (some (.int (zi_bI v)), zS h a p A K F b)) (P := fun i => zh_i h 198 (lS (zh_i h 198) t n + i) = zi_sc k i) (N := zi_sl k) (fun i _ hi _ => by
        have nc : (nI i).toNatClampNeg = i := nI_clamp (by omega)
        try dsimp only
        have e1 : zv 2 32 28 [.ref 197, .retAddr k, .int (nI i)] [] (zS h a p A K F b) = if zh_i h 198 (lS (zh_i h 198) t n + i) = zi_sc k i then zv 2 32 28 [.ref 197, .retAddr k, .int (nI (i + 1))] [] (zS h a p A K F b) else some (some (.int 0), zS h a p A K F b) := by
          have eb : zv 1 33 0 [.ref 197, .int (nI (lS (zh_i h 198) t n + i))] [] (zS h a p A K F b) = some (some (.int (zh_i h 198 (lS (zh_i h 198) t n + i))), zS h a p A K F b) := by
            have lt : lS (zh_i h 198) t n + i < t := by omega
            rw [b33_0, if_neg (nI_pos (by omega)), b33_4 (s_g0 S) (s_g1 S), zS_7, Q.1.2.1, if_pos (nI_lt lt (by omega)), b33_12, if_pos (show nI (lS (zh_i h 198) t n + i) < 160 from nI_lt (b := 160) (by omega) (by decide)), b33_19 (s_g0 S) (s_g1 S) (by rw [zS_r, S.r, rx_197_0, zq_rf]) (by rw [zS_r, S.r, rx_197_0, zq_rf, zS_n, S.n]; decide) (by rw [zS_r, S.r, rx_197_0, zq_rf, zS_k, S.k, kx_198]; exact zj_n (by omega) (by decide)) (by rw [zS_r, S.r, rx_197_0, zq_rf, zS_k, S.k, kx_198]), b33_30, zS_r, S.r, rx_197_0, zq_rf, nI_clamp (by omega), zS_8]
          rw [b32_28 hk, if_pos (show nI i < Int32.ofNat (zi_sl k) from nI_lt (b := zi_sl k) (by omega) (by omega)), b32_36 (s_g0 S) (s_g1 S), zS_7, Q.2.2.1, nI_add, eb]
          simp only [Option.bind_some, Option.toList_some, Option.toList_none, List.cons_append, List.nil_append]
          rw [b32_46 hk (zj_n (by omega) (by omega)), nc, b32_54, b32_56, nI_s]
        by_cases z : zh_i h 198 (lS (zh_i h 198) t n + i) = zi_sc k i
        · exact Or.inl ⟨z, (), by rw [e1, if_pos z]⟩
        · exact Or.inr ⟨z, by rw [e1, if_neg z]; rfl⟩) (fun _ => by
        try dsimp only
        rw [b32_28 hk, if_neg (show ¬ nI (zi_sl k) < Int32.ofNat (zi_sl k) from Int32.lt_irrefl), b32_62]; rfl) (zi_sl k) 0 () (Nat.le_refl _) (Nat.zero_add _)
      refine ⟨v, fun u => by rw [go u, if_pos q]; exact ev, hv.trans ⟨fun z => ⟨q2, q, fun i hi => z i (Nat.zero_le _) hi⟩, fun z i _ hi => z.2.2 i hi⟩⟩
    · exact ⟨false, fun u => by rw [go u, if_neg q]; rfl, ⟨fun z => absurd z (by decide), fun z => absurd z.2.1 q⟩⟩
  · refine ⟨false, fun u => ?_, ⟨fun z => absurd z (by decide), fun z => absurd z.1 q2⟩⟩
    rw [b32_0 (s_g0 S) (s_g1 S), zS_7, if_neg (show ¬ a 2 = 2 from fun z => q2 ((Q.k (k := 2) (by decide)).mp z)), b32_24]; rfl
/-- is it, by the reference -/
theorem y_is (S1 : Sh h1) (Q : BT (zh_i h 198) h1 t) (hn : n ≤ t) (W : TW (zh_i h 198) w t n) {m : Nat} (hm : m = 3 ∨ m = 4) {c1 c2 c3 c4 : Int32} : ∃ v : Bool, zv 2 184 0 [.ref 211, .int (nI m), .int c1, .int c2, .int c3, .int c4] [] (zP h1 w T Fd bR) = some (some (.int (zi_bI v)), zP h1 w T Fd bR) ∧ (v = true ↔ (lX (zh_i h 198) t n - lS (zh_i h 198) t n = m ∧ zh_i h 198 (lS (zh_i h 198) t n) = c1 ∧ zh_i h 198 (lS (zh_i h 198) t n + 1) = c2 ∧ zh_i h 198 (lS (zh_i h 198) t n + 2) = c3 ∧ (m < 4 ∨ zh_i h 198 (lS (zh_i h 198) t n + 3) = c4))) := by
  have hx := lX_ge (B := zh_i h 198) (t := t) (n := n)
  have hxt := lX_le (B := zh_i h 198) hn
  have ht := Q.1
  obtain ⟨w9, w10, -⟩ := W
  have f0 : zv 2 184 78 [.ref 211, .int (nI m), .int c1, .int c2, .int c3, .int c4] [] (zP h1 w T Fd bR) = some (some (.int (zi_bI false)), zP h1 w T Fd bR) := by rw [b184_78, b184_79 (Or.inl rfl)]; rfl
  have f1 : zv 2 184 74 [.ref 211, .int (nI m), .int c1, .int c2, .int c3, .int c4] [] (zP h1 w T Fd bR) = some (some (.int (zi_bI true)), zP h1 w T Fd bR) := by rw [b184_74, b184_79 (Or.inr rfl)]; rfl
  have ad : ∀ k : Nat, nI (lS (zh_i h 198) t n) + nI k = nI (lS (zh_i h 198) t n + k) := fun k => nI_add _ k
  rw [b184_0 (p_g0 S1) (p_g1 S1), zP_w (by decide) (by decide), zP_w (by decide) (by decide), w9, w10, nI_sub hx]
  by_cases q : lX (zh_i h 198) t n - lS (zh_i h 198) t n = m
  · have eb : ∀ k, k < m → byF h1 t (lS (zh_i h 198) t n + k) = zh_i h 198 (lS (zh_i h 198) t n + k) := fun k hk => by rw [Q.by, if_pos (by omega)]
    have e0 : byF h1 t (lS (zh_i h 198) t n) = zh_i h 198 (lS (zh_i h 198) t n) := eb 0 (by omega)
    rw [if_pos (show nI (lX (zh_i h 198) t n - lS (zh_i h 198) t n) = nI m by rw [q]), b184_13 (p_g0 S1) (p_g1 S1), zP_w (by decide) (by decide), w10, y_by S1 Q (by omega), e0]
    simp only [Option.bind_some, Option.toList_some, Option.toList_none, List.cons_append, List.nil_append]
    rw [b184_21]
    by_cases z1 : zh_i h 198 (lS (zh_i h 198) t n) = c1
    · rw [if_pos z1, b184_25 (p_g0 S1) (p_g1 S1), zP_w (by decide) (by decide), w10, show (1 : Int32) = nI 1 from rfl, ad 1, y_by S1 Q (by omega), eb 1 (by omega)]
      simp only [Option.bind_some, Option.toList_some, Option.toList_none, List.cons_append, List.nil_append]
      rw [b184_35]
      by_cases z2 : zh_i h 198 (lS (zh_i h 198) t n + 1) = c2
      · rw [if_pos z2, b184_39 (p_g0 S1) (p_g1 S1), zP_w (by decide) (by decide), w10, show (2 : Int32) = nI 2 from rfl, ad 2, y_by S1 Q (by omega), eb 2 (by omega)]
        simp only [Option.bind_some, Option.toList_some, Option.toList_none, List.cons_append, List.nil_append]
        rw [b184_49]
        by_cases z3 : zh_i h 198 (lS (zh_i h 198) t n + 2) = c3
        · rw [if_pos z3, b184_54]
          by_cases z4 : m < 4
          · rw [if_pos (show nI m < 4 from nI_lt (b := 4) z4 (by decide)), f1]
            exact ⟨true, rfl, fun _ => ⟨q, z1, z2, z3, Or.inl z4⟩, fun _ => rfl⟩
          · rw [if_neg (show ¬ nI m < 4 from fun z => z4 ((nI_lt' (b := 4) (by omega) (by decide)).mp z)), b184_59 (p_g0 S1) (p_g1 S1), zP_w (by decide) (by decide), w10, show (3 : Int32) = nI 3 from rfl, ad 3, y_by S1 Q (by omega), eb 3 (by omega)]
            simp only [Option.bind_some, Option.toList_some, Option.toList_none, List.cons_append, List.nil_append]
            rw [b184_69]
            by_cases z5 : zh_i h 198 (lS (zh_i h 198) t n + 3) = c4
            · rw [if_pos z5, f1]
              exact ⟨true, rfl, fun _ => ⟨q, z1, z2, z3, Or.inr z5⟩, fun _ => rfl⟩
            · rw [if_neg z5, f0]
              exact ⟨false, rfl, fun z => absurd z (by decide), fun z => z.2.2.2.2.elim (fun y => absurd y z4) (fun y => absurd y z5)⟩
        · rw [if_neg z3, f0]
          exact ⟨false, rfl, fun z => absurd z (by decide), fun z => absurd z.2.2.2.1 z3⟩
      · rw [if_neg z2, f0]
        exact ⟨false, rfl, fun z => absurd z (by decide), fun z => absurd z.2.2.1 z2⟩
    · rw [if_neg z1, f0]
      exact ⟨false, rfl, fun z => absurd z (by decide), fun z => absurd z.2.1 z1⟩
  · rw [if_neg (fun z => q ((nI_eq' (by omega) (by omega)).mp z)), f0]
    exact ⟨false, rfl, fun z => absurd z (by decide), fun z => absurd z.1 q⟩
/-- which word it is, by both -/
theorem j_nm (S : Sh h) (S1 : Sh h1) (Q : BT (zh_i h 198) h1 t) (hn : n ≤ t) (E : TA (zh_i h 198) a t n) (W : TW (zh_i h 198) w t n) : ∃ b1 b2 b3 b4 : Bool, (∀ u : Value, zv 2 32 0 [.ref 197, .retAddr 1, u] [] (zS h a p A K F b) = some (some (.int (zi_bI b1)), zS h a p A K F b)) ∧ (∀ u : Value, zv 2 32 0 [.ref 197, .retAddr 2, u] [] (zS h a p A K F b) = some (some (.int (zi_bI b2)), zS h a p A K F b)) ∧ (∀ u : Value, zv 2 32 0 [.ref 197, .retAddr 3, u] [] (zS h a p A K F b) = some (some (.int (zi_bI b3)), zS h a p A K F b)) ∧ (∀ u : Value, zv 2 32 0 [.ref 197, .retAddr 4, u] [] (zS h a p A K F b) = some (some (.int (zi_bI b4)), zS h a p A K F b)) ∧ (lK (zh_i h 198) t n = 2 → zv 3 185 0 [.ref 211] [] (zP h1 w T Fd bR) = some (some (.int (if b1 = true then 0 else if b2 = true then 1 else if b3 = true then 2 else if b4 = true then 3 else -4)), zP h1 w T Fd bR)) ∧ (¬ lK (zh_i h 198) t n = 2 → b1 = false ∧ b2 = false ∧ b3 = false ∧ b4 = false) := by
  obtain ⟨b1, e1, i1⟩ := x_nm S E hn (p := p) (A := A) (K := K) (F := F) (b := b) (k := 1) (by decide)
  obtain ⟨b2, e2, i2⟩ := x_nm S E hn (p := p) (A := A) (K := K) (F := F) (b := b) (k := 2) (by decide)
  obtain ⟨b3, e3, i3⟩ := x_nm S E hn (p := p) (A := A) (K := K) (F := F) (b := b) (k := 3) (by decide)
  obtain ⟨b4, e4, i4⟩ := x_nm S E hn (p := p) (A := A) (K := K) (F := F) (b := b) (k := 4) (by decide)
  refine ⟨b1, b2, b3, b4, e1, e2, e3, e4, fun hk => ?_, fun hk => ?_⟩
  · obtain ⟨v1, f1, j1⟩ := y_is S1 Q hn W (T := T) (Fd := Fd) (bR := bR) (m := 4) (Or.inr rfl) (c1 := 114) (c2 := 111) (c3 := 111) (c4 := 109)
    obtain ⟨v2, f2, j2⟩ := y_is S1 Q hn W (T := T) (Fd := Fd) (bR := bR) (m := 3) (Or.inl rfl) (c1 := 112) (c2 := 117) (c3 := 116) (c4 := 0)
    obtain ⟨v3, f3, j3⟩ := y_is S1 Q hn W (T := T) (Fd := Fd) (bR := bR) (m := 4) (Or.inr rfl) (c1 := 116) (c2 := 97) (c3 := 107) (c4 := 101)
    obtain ⟨v4, f4, j4⟩ := y_is S1 Q hn W (T := T) (Fd := Fd) (bR := bR) (m := 4) (Or.inr rfl) (c1 := 102) (c2 := 105) (c3 := 110) (c4 := 100)
    have al4 : ∀ {P : Nat → Prop}, (∀ i, i < 4 → P i) ↔ (P 0 ∧ P 1 ∧ P 2 ∧ P 3) := fun {P} => ⟨fun z => ⟨z 0 (by decide), z 1 (by decide), z 2 (by decide), z 3 (by decide)⟩, fun z i hi => by
      have : i = 0 ∨ i = 1 ∨ i = 2 ∨ i = 3 := by omega
      rcases this with rfl | rfl | rfl | rfl
      · exact z.1
      · exact z.2.1
      · exact z.2.2.1
      · exact z.2.2.2⟩
    have al3 : ∀ {P : Nat → Prop}, (∀ i, i < 3 → P i) ↔ (P 0 ∧ P 1 ∧ P 2) := fun {P} => ⟨fun z => ⟨z 0 (by decide), z 1 (by decide), z 2 (by decide)⟩, fun z i hi => by
      have : i = 0 ∨ i = 1 ∨ i = 2 := by omega
      rcases this with rfl | rfl | rfl
      · exact z.1
      · exact z.2.1
      · exact z.2.2⟩
    have E1 : v1 = b1 := by
      rw [Bool.eq_iff_iff, j1, i1, show zi_sl 1 = 4 from rfl, al4]
      exact ⟨fun z => ⟨hk, z.1, z.2.1, z.2.2.1, z.2.2.2.1, z.2.2.2.2.resolve_left (by decide)⟩, fun z => ⟨z.2.1, z.2.2.1, z.2.2.2.1, z.2.2.2.2.1, Or.inr z.2.2.2.2.2⟩⟩
    have E2 : v2 = b2 := by
      rw [Bool.eq_iff_iff, j2, i2, show zi_sl 2 = 3 from rfl, al3]
      exact ⟨fun z => ⟨hk, z.1, z.2.1, z.2.2.1, z.2.2.2.1⟩, fun z => ⟨z.2.1, z.2.2.1, z.2.2.2.1, z.2.2.2.2, Or.inl (by decide)⟩⟩
    have E3 : v3 = b3 := by
      rw [Bool.eq_iff_iff, j3, i3, show zi_sl 3 = 4 from rfl, al4]
      exact ⟨fun z => ⟨hk, z.1, z.2.1, z.2.2.1, z.2.2.2.1, z.2.2.2.2.resolve_left (by decide)⟩, fun z => ⟨z.2.1, z.2.2.1, z.2.2.2.1, z.2.2.2.2.1, Or.inr z.2.2.2.2.2⟩⟩
    have E4 : v4 = b4 := by
      rw [Bool.eq_iff_iff, j4, i4, show zi_sl 4 = 4 from rfl, al4]
      exact ⟨fun z => ⟨hk, z.1, z.2.1, z.2.2.1, z.2.2.2.1, z.2.2.2.2.resolve_left (by decide)⟩, fun z => ⟨z.2.1, z.2.2.1, z.2.2.2.1, z.2.2.2.2.1, Or.inr z.2.2.2.2.2⟩⟩
    rw [E1] at f1
    rw [E2] at f2
    rw [E3] at f3
    rw [E4] at f4
    have f1' : zv 2 184 0 [.ref 211, .int 4, .int 114, .int 111, .int 111, .int 109] [] (zP h1 w T Fd bR) = _ := f1
    have f2' : zv 2 184 0 [.ref 211, .int 3, .int 112, .int 117, .int 116, .int 0] [] (zP h1 w T Fd bR) = _ := f2
    have f3' : zv 2 184 0 [.ref 211, .int 4, .int 116, .int 97, .int 107, .int 101] [] (zP h1 w T Fd bR) = _ := f3
    have f4' : zv 2 184 0 [.ref 211, .int 4, .int 102, .int 105, .int 110, .int 100] [] (zP h1 w T Fd bR) = _ := f4
    rw [b185_0 (p_g0 S1) (p_g1 S1), f1']
    simp only [Option.bind_some, Option.toList_some, Option.toList_none, List.cons_append, List.nil_append]
    rw [b185_13]
    cases b1 with
    | true => rw [zi_bI_t, if_neg (by decide), if_pos rfl, b185_16]
    | false =>
      rw [zi_bI_f, if_pos rfl, if_neg (by decide), b185_18 (p_g0 S1) (p_g1 S1), f2']
      simp only [Option.bind_some, Option.toList_some, Option.toList_none, List.cons_append, List.nil_append]
      rw [b185_30]
      cases b2 with
      | true => rw [zi_bI_t, if_neg (by decide), if_pos rfl, b185_33]
      | false =>
        rw [zi_bI_f, if_pos rfl, if_neg (by decide), b185_35 (p_g0 S1) (p_g1 S1), f3']
        simp only [Option.bind_some, Option.toList_some, Option.toList_none, List.cons_append, List.nil_append]
        rw [b185_48]
        cases b3 with
        | true => rw [zi_bI_t, if_neg (by decide), if_pos rfl, b185_51, b185_77]
        | false =>
          rw [zi_bI_f, if_pos rfl, if_neg (by decide), b185_55 (p_g0 S1) (p_g1 S1), f4']
          simp only [Option.bind_some, Option.toList_some, Option.toList_none, List.cons_append, List.nil_append]
          rw [b185_68]
          cases b4 with
          | true => rw [zi_bI_t, if_neg (by decide), if_pos rfl, b185_71, b185_77]
          | false => rw [zi_bI_f, if_pos rfl, if_neg (by decide), b185_75, b185_77]
  · have no : ∀ {v : Bool} {P : Prop}, (v = true ↔ (lK (zh_i h 198) t n = 2 ∧ P)) → v = false := fun {v P} i => by
      cases v with
      | false => rfl
      | true => exact absurd (i.mp rfl).1 hk
    exact ⟨no i1, no i2, no i3, no i4⟩
/-- the reference tells a fault in a rule's place -/
theorem TW.rq (W : TW (zh_i h 198) w t n) (hk : ¬ lK (zh_i h 198) t n = 0) {c : Nat} (hc1 : 1 ≤ c) (hc : c ≤ 5) : Bd (rqF w 0 (nI c)) (lS (zh_i h 198) t n) := by
  obtain ⟨-, w10, -, w13, -⟩ := W
  unfold rqF
  rw [if_pos ⟨rfl, (w13 hk).1⟩]
  exact ⟨by rw [up_n _ _ (by decide), up_s]; exact nI_lt (a := 0) (by omega) (by omega), by rw [up_s, w10]⟩
theorem rq_1 {c : Int32} : rqF w 1 c = w := by unfold rqF; rw [if_neg (fun z => absurd z.1 (by decide))]
theorem rq_g {g c : Int32} (e : ¬ w 13 = 0) : rqF w g c = w := by unfold rqF; rw [if_neg (fun z => e z.2)]
theorem Bd.z {z : Nat} (D : Bd w z) : ¬ w 13 = 0 := fun q => by have := D.1; rw [q] at this; exact absurd this (by decide)
theorem TW.bd (W : TW (zh_i h 198) w t n) (hk : lK (zh_i h 198) t n = 0) : Bd w (lS (zh_i h 198) t n) := by
  obtain ⟨-, -, w0, -⟩ := W
  exact ⟨by rw [(w0 hk).1]; decide, (w0 hk).2⟩
/-- a number is read -/
theorem y_rnB (S1 : Sh h1) {z : Nat} (D : Bd w z) {lo hi : Int32} {u : Value} : zv 3 187 0 [.ref 211, .int lo, .int hi, u] [] (zP h1 w T Fd bR) = some (some (.int 0), zP h1 w T Fd bR) := by
  rw [b187_0 (p_g0 S1) (p_g1 S1), zP_w (by decide) (by decide), if_neg D.z, b187_25 (p_g0 S1) (p_g1 S1), zP_w (by decide) (by decide), if_neg D.z, b187_49 (p_g0 S1) (p_g1 S1), zP_w (by decide) (by decide), if_neg D.z, b187_63, b187_64 (p_g0 S1) (p_g1 S1), y_rdF S1 D.1]
  simp only [Option.bind_some, Option.toList_some, Option.toList_none, List.cons_append, List.nil_append]
  rw [b187_69]
theorem y_rn (S1 : Sh h1) (Q : BT (zh_i h 198) h1 t) (hn : n ≤ t) (W : TW (zh_i h 198) w t n) {lo hi : Nat} (hlo : lo ≤ 99) (hhi : hi ≤ 99) {u : Value} : (∃ v, lK (zh_i h 198) t n = 3 ∧ v ≤ 99 ∧ lVv (zh_i h 198) (lS (zh_i h 198) t n) (lX (zh_i h 198) t n - lS (zh_i h 198) t n) = nI v ∧ lo ≤ v ∧ v ≤ hi ∧ ∃ w', zv 3 187 0 [.ref 211, .int (nI lo), .int (nI hi), u] [] (zP h1 w T Fd bR) = some (some (.int (nI v)), zP h1 w' T Fd bR) ∧ TW (zh_i h 198) w' t (lX (zh_i h 198) t n) ∧ ∀ j, 14 < j → w' j = w j) ∨ ((¬ lK (zh_i h 198) t n = 3 ∨ ∃ v, lK (zh_i h 198) t n = 3 ∧ v ≤ 99 ∧ lVv (zh_i h 198) (lS (zh_i h 198) t n) (lX (zh_i h 198) t n - lS (zh_i h 198) t n) = nI v ∧ ¬ (lo ≤ v ∧ v ≤ hi)) ∧ ∃ w', zv 3 187 0 [.ref 211, .int (nI lo), .int (nI hi), u] [] (zP h1 w T Fd bR) = some (some (.int 0), zP h1 w' T Fd bR) ∧ Bd w' (lS (zh_i h 198) t n) ∧ ∀ j, 14 < j → w' j = w j) := by
  have hi14 : ∀ {g c : Int32} (j : Nat), 14 < j → rqF w g c j = w j := fun j hj => rq_hi (by omega) (by omega)
  obtain ⟨w9, w10, w0, wk, w3⟩ := id W
  by_cases q0 : lK (zh_i h 198) t n = 0
  · exact Or.inr ⟨Or.inl (by omega), w, y_rnB S1 (W.bd q0), W.bd q0, fun _ _ => rfl⟩
  · obtain ⟨w13, w11⟩ := wk q0
    have hK := lK_le (B := zh_i h 198) (t := t) (n := n)
    have end9 : ∀ {w' : Nat → Int32}, Bd w' (lS (zh_i h 198) t n) → zv 3 187 49 [.ref 211, .int (nI lo), .int (nI hi), u] [] (zP h1 w' T Fd bR) = some (some (.int 0), zP h1 w' T Fd bR) := fun {w'} D => by
      rw [b187_49 (p_g0 S1) (p_g1 S1), zP_w (by decide) (by decide), if_neg D.z, b187_63, b187_64 (p_g0 S1) (p_g1 S1), y_rdF S1 D.1]
      simp only [Option.bind_some, Option.toList_some, Option.toList_none, List.cons_append, List.nil_append]
      rw [b187_69]
    by_cases q3 : lK (zh_i h 198) t n = 3
    · obtain ⟨v, hv, ev⟩ := lV_v q3
      have w12 : w 12 = nI v := (w3 q3).trans ev
      have go : zv 3 187 0 [.ref 211, .int (nI lo), .int (nI hi), u] [] (zP h1 w T Fd bR) = zv 3 187 49 [.ref 211, .int (nI lo), .int (nI hi), u] [] (zP h1 (rqF w (if nI lo ≤ nI v ∧ nI v ≤ nI hi then 1 else 0) 3) T Fd bR) := by
        rw [b187_0 (p_g0 S1) (p_g1 S1), zP_w (by decide) (by decide), if_pos w13, b187_7 (p_g0 S1) (p_g1 S1), zP_w (by decide) (by decide), w11, q3, if_pos (show nI (3 - 1) = 2 from rfl), b187_16, b187_21 (p_g0 S1) (p_g1 S1), p_rq S1, rq_1]
        simp only [Option.bind_some, Option.toList_some, Option.toList_none, List.cons_append, List.nil_append]
        rw [b187_25 (p_g0 S1) (p_g1 S1), zP_w (by decide) (by decide), if_pos w13, b187_32 (p_g0 S1) (p_g1 S1), zP_w (by decide) (by decide), w12, c_inI]
        simp only [Option.bind_some, Option.toList_some, Option.toList_none, List.cons_append, List.nil_append]
        rw [b187_45 (p_g0 S1) (p_g1 S1), p_rq S1]
        simp only [Option.bind_some, Option.toList_some, Option.toList_none, List.cons_append, List.nil_append]
      by_cases q : lo ≤ v ∧ v ≤ hi
      · have qi : nI lo ≤ nI v ∧ nI v ≤ nI hi := ⟨Int32.not_lt.mp (nI_nlt q.1 (by omega)), Int32.not_lt.mp (nI_nlt q.2 (by omega))⟩
        obtain ⟨w', e', W', hh⟩ := y_rd S1 Q (w := w) (T := T) (F := Fd) (b := bR) (n := lX (zh_i h 198) t n) (lX_le hn) w9 w13 (u := .double 0)
        refine Or.inl ⟨v, q3, hv, ev, q.1, q.2, w', ?_, W', hh⟩
        rw [go, if_pos qi, rq_1, b187_49 (p_g0 S1) (p_g1 S1), zP_w (by decide) (by decide), if_pos w13, b187_56 (p_g0 S1) (p_g1 S1), zP_w (by decide) (by decide), w12, b187_64 (p_g0 S1) (p_g1 S1), e']
        simp only [Option.bind_some, Option.toList_some, Option.toList_none, List.cons_append, List.nil_append]
        rw [b187_69]
      · have qi : ¬ (nI lo ≤ nI v ∧ nI v ≤ nI hi) := fun z => q ⟨Nat.not_lt.mp (fun y => absurd (nI_lt (a := v) (b := lo) y (by omega)) (Int32.not_lt.mpr z.1)), Nat.not_lt.mp (fun y => absurd (nI_lt (a := hi) (b := v) y (by omega)) (Int32.not_lt.mpr z.2))⟩
        have D := W.rq q0 (c := 3) (by decide) (by decide)
        exact Or.inr ⟨Or.inr ⟨v, q3, hv, ev, q⟩, _, by rw [go, if_neg qi]; exact end9 D, D, hi14⟩
    · have D := W.rq q0 (c := 2) (by decide) (by decide)
      refine Or.inr ⟨Or.inl q3, _, ?_, D, hi14⟩
      rw [b187_0 (p_g0 S1) (p_g1 S1), zP_w (by decide) (by decide), if_pos w13, b187_7 (p_g0 S1) (p_g1 S1), zP_w (by decide) (by decide), w11, if_neg (show ¬ nI (lK (zh_i h 198) t n - 1) = 2 from fun z => q3 (by have := (nI_eq' (b := 2) (by omega) (by decide)).mp z; omega)), b187_20, b187_21 (p_g0 S1) (p_g1 S1), p_rq S1]
      simp only [Option.bind_some, Option.toList_some, Option.toList_none, List.cons_append, List.nil_append]
      have D' : Bd (rqF w 0 2) (lS (zh_i h 198) t n) := D
      rw [b187_25 (p_g0 S1) (p_g1 S1), zP_w (by decide) (by decide), if_neg D'.z]
      exact end9 D'
end R34M
