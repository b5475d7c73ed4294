/-! THE CLASS: lines of a text -/
section R33I
variable {h : zi_Hp} {a p A K F : Nat → Int32} {b : Bool} {t n : Nat}
def PP (p A K F : Nat → Int32) : Prop := (∃ v, p 1 = nI v ∧ 2 ≤ v ∧ v ≤ 4) ∧ (∃ k, p 2 = nI k ∧ k ≤ 40 ∧ ∀ i, i < k → (∃ a, A i = nI a ∧ a ≤ 2) ∧ ∃ q, K i = nI q ∧ q ≤ 99) ∧ ∀ c, c < 3 → F c < 0 ∨ ∃ q, F c = nI q ∧ q ≤ 99
theorem PP.u (P : PP p A K F) {k : Nat} {v : Int32} (h1 : k ≠ 1) (h2 : k ≠ 2) : PP (up p k v) A K F := by
  obtain ⟨⟨v, e, q⟩, ⟨k, e2, q2⟩, f⟩ := P
  exact ⟨⟨v, by rw [up_n _ _ (Ne.symm h1)]; exact e, q⟩, ⟨k, by rw [up_n _ _ (Ne.symm h2)]; exact e2, q2⟩, f⟩
/-- a memory while lines are read -/
def ZI (h : zi_Hp) (t : Nat) (m : zi_Hp) : Prop := ∃ a p A K F b, m = zS h a p A K F b ∧ TS a t ∧ PP p A K F
/-- a truth is answered -/
def ZB (h : zi_Hp) (t : Nat) (o : Option zi_Rt) : Prop := ∃ (v : Bool) (m : zi_Hp), o = some (some (.int (zi_bI v)), m) ∧ ZI h t m
theorem s_re (S : Sh h) {w : Int32} : zv 1 21 0 [.ref 199, .ref 197, .int w] [] (zS h a p A K F b) = some (some (.int 0), zS h a (up (up p 3 w) 4 (a 3)) A K F b) := by
  rw [b21_0 (s_g2 S) (s_g3 S), zS_w9, b21_7 (s_g0 S) (s_g1 S) (s_g2 S) (s_g3 S), zS_7, zS_w9]
theorem s_ref (S : Sh h) (T : TS a t) (P : PP p A K F) {w : Int32} : ZB h t (zv 1 21 0 [.ref 199, .ref 197, .int w] [] (zS h a p A K F b)) := ⟨false, _, s_re S, a, _, A, K, F, b, rfl, T, (P.u (by decide) (by decide)).u (by decide) (by decide)⟩
theorem s_nw (S : Sh h) (P : PP p A K F) {w : Int32} : ∃ (v : Bool) (p' : Nat → Int32), zv 2 20 0 [.ref 199, .ref 197, .int w] [] (zS h a p A K F b) = some (some (.int (zi_bI v)), zS h a p' A K F b) ∧ PP p' A K F ∧ (v = true → a 2 = w ∧ p' = p) := by
  rw [b20_0 (s_g0 S) (s_g1 S), zS_7]
  by_cases q : a 2 = w
  · rw [if_pos q, b20_28, b20_33 (Or.inr rfl)]
    exact ⟨true, p, rfl, P, fun _ => ⟨q, rfl⟩⟩
  · have go : ∀ {x : Int32}, zv 2 20 22 [.ref 199, .ref 197, .int w] [.int x, .ref 197, .ref 199] (zS h a p A K F b) = some (some (.int 0), zS h a (up (up p 3 x) 4 (a 3)) A K F b) := fun {x} => by
      rw [b20_22 (s_g2 S) (s_g3 S), s_re S]
      simp only [Option.bind_some, Option.toList_some, Option.toList_none, List.cons_append, List.nil_append]
      rw [b20_25, if_pos rfl, b20_32, b20_33 (Or.inl rfl)]
    rw [if_neg q, b20_8 (s_g0 S) (s_g1 S), zS_7]
    by_cases q0 : a 2 = 0
    · rw [if_pos q0, b20_17, go]
      exact ⟨false, _, rfl, (P.u (by decide) (by decide)).u (by decide) (by decide), fun z => absurd z (by decide)⟩
    · rw [if_neg q0, b20_21, go]
      exact ⟨false, _, rfl, (P.u (by decide) (by decide)).u (by decide) (by decide), fun z => absurd z (by decide)⟩
theorem s_ts (S : Sh h) (T : TS a t) (P : PP p A K F) : ZB h t (zv 4 19 0 [.ref 199, .ref 197] [] (zS h a p A K F b)) := by
  obtain ⟨a', e, T'⟩ := T.sc S (p := p) (A := A) (K := K) (F := F) (b := b) (u := .double 0)
  obtain ⟨v, p', e2, P', -⟩ := s_nw S (a := a') (b := b) P (w := 4)
  refine ⟨v, _, ?_, a', p', A, K, F, b, rfl, T', P'⟩
  rw [b19_0 (s_g0 S) (s_g1 S), e]
  simp only [Option.bind_some, Option.toList_some, Option.toList_none, List.cons_append, List.nil_append]
  rw [b19_4 (s_g2 S) (s_g3 S), e2]
  simp only [Option.bind_some, Option.toList_some, Option.toList_none, List.cons_append, List.nil_append]
  rw [b19_10 (zi_bI_01 v)]
theorem s_tn (S : Sh h) (T : TS a t) (P : PP p A K F) {lo hi : Int32} : ∃ (v : Bool) (a' p' : Nat → Int32), zv 4 18 0 [.ref 199, .ref 197, .int lo, .int hi] [] (zS h a p A K F b) = some (some (.int (zi_bI v)), zS h a' p' A K F b) ∧ TS a' t ∧ PP p' A K F ∧ (v = true → (∃ w, a' 4 = nI w ∧ w ≤ 99) ∧ ¬ a' 4 < lo ∧ ¬ hi < a' 4) := by
  obtain ⟨a', e, T'⟩ := T.sc S (p := p) (A := A) (K := K) (F := F) (b := b) (u := .double 0)
  obtain ⟨v, p', e2, P', hv⟩ := s_nw S (a := a') (b := b) P (w := 3)
  have go : zv 4 18 0 [.ref 199, .ref 197, .int lo, .int hi] [] (zS h a p A K F b) = if zi_bI v = 0 then zv 4 18 13 [.ref 199, .ref 197, .int lo, .int hi] [] (zS h a' p' A K F b) else zv 4 18 15 [.ref 199, .ref 197, .int lo, .int hi] [] (zS h a' p' A K F b) := by
    rw [b18_0 (s_g0 S) (s_g1 S), e]
    simp only [Option.bind_some, Option.toList_some, Option.toList_none, List.cons_append, List.nil_append]
    rw [b18_4 (s_g2 S) (s_g3 S), e2]
    simp only [Option.bind_some, Option.toList_some, Option.toList_none, List.cons_append, List.nil_append]
    rw [b18_10]
  have bad : zv 4 18 31 [.ref 199, .ref 197, .int lo, .int hi] [] (zS h a' p' A K F b) = some (some (.int 0), zS h a' (up (up p' 3 3) 4 (a' 3)) A K F b) := by
    rw [b18_31 (s_g2 S) (s_g3 S), s_re S]
    simp only [Option.bind_some, Option.toList_some, Option.toList_none, List.cons_append, List.nil_append]
    rw [b18_37, if_pos rfl, b18_44, b18_45 (Or.inl rfl)]
  cases v with
  | false => exact ⟨false, a', p', by rw [go, zi_bI_f, if_pos rfl, b18_13], T', P', fun z => absurd z (by decide)⟩
  | true =>
    rw [go, zi_bI_t, if_neg (by decide), b18_15 (s_g0 S) (s_g1 S), zS_7]
    by_cases q1 : a' 4 < lo
    · rw [if_pos q1, bad]
      exact ⟨false, a', _, rfl, T', (P'.u (by decide) (by decide)).u (by decide) (by decide), fun z => absurd z (by decide)⟩
    · rw [if_neg q1, b18_23 (s_g0 S) (s_g1 S), zS_7]
      by_cases q2 : hi < a' 4
      · rw [if_pos q2, bad]
        exact ⟨false, a', _, rfl, T', (P'.u (by decide) (by decide)).u (by decide) (by decide), fun z => absurd z (by decide)⟩
      · rw [if_neg q2, b18_40, b18_45 (Or.inr rfl)]
        exact ⟨true, a', p', rfl, T', P', fun _ => ⟨T'.2 (hv rfl).1, q1, q2⟩⟩
theorem s_ro (S : Sh h) (T : TS a t) (P : PP p A K F) : ZB h t (zv 5 15 0 [.ref 199, .ref 197] [] (zS h a p A K F b)) := by
  rw [b15_0 (s_g2 S) (s_g3 S), zS_b]
  cases b with
  | true =>
    obtain ⟨v, m, e, Z⟩ := s_ref S (b := true) T P (w := 4)
    rw [zi_bI_t, if_neg (by decide), b15_7 (s_g2 S) (s_g3 S), e]
    simp only [Option.bind_some, Option.toList_some, Option.toList_none, List.cons_append, List.nil_append]
    exact ⟨v, m, by rw [b15_13 (zi_bI_01 v)], Z⟩
  | false =>
    obtain ⟨v, a', p', e, T', P', hv⟩ := s_tn S (b := false) T P (lo := 2) (hi := 4)
    rw [zi_bI_f, if_pos rfl, b15_14 (s_g2 S) (s_g3 S), e]
    simp only [Option.bind_some, Option.toList_some, Option.toList_none, List.cons_append, List.nil_append]
    rw [b15_21]
    cases v with
    | false => exact ⟨false, _, by rw [zi_bI_f, if_pos rfl, b15_24], a', p', A, K, F, false, rfl, T', P'⟩
    | true =>
      obtain ⟨⟨w, ew, hw⟩, q1, q2⟩ := hv rfl
      rw [zi_bI_t, if_neg (by decide), b15_26 (s_g2 S) (s_g3 S), zS_wb, b15_33 (s_g0 S) (s_g1 S) (s_g2 S) (s_g3 S) (s_g2 S) (s_g3 S), zS_7, ew, zS_w9]
      rw [ew, show (2 : Int32) = nI 2 from rfl, nI_lt' (by omega) (by omega)] at q1
      rw [ew, show (4 : Int32) = nI 4 from rfl, nI_lt' (by omega) (by omega)] at q2
      have P2 : PP (up p' 1 (nI w)) A K F := by
        obtain ⟨-, ⟨k, e2, q⟩, f⟩ := P'
        exact ⟨⟨w, up_s _ _ _, by omega, by omega⟩, ⟨k, by rw [up_n _ _ (by decide)]; exact e2, q⟩, f⟩
      obtain ⟨v, m, e2, Z⟩ := s_ts S (b := true) T' P2
      rw [e2]
      simp only [Option.bind_some, Option.toList_some, Option.toList_none, List.cons_append, List.nil_append]
      exact ⟨v, m, by rw [b15_44 (zi_bI_01 v)], Z⟩
theorem s_fd (S : Sh h) (T : TS a t) (P : PP p A K F) {u : Value} : ZB h t (zv 5 17 0 [.ref 199, .ref 197, u] [] (zS h a p A K F b)) := by
  obtain ⟨v, a', p', e, T', P', hv⟩ := s_tn S (b := b) T P (lo := 0) (hi := 2)
  rw [b17_0 (s_g2 S) (s_g3 S), e]
  simp only [Option.bind_some, Option.toList_some, Option.toList_none, List.cons_append, List.nil_append]
  rw [b17_7]
  cases v with
  | false => exact ⟨false, _, by rw [zi_bI_f, if_pos rfl, b17_10], a', p', A, K, F, b, rfl, T', P'⟩
  | true =>
    obtain ⟨⟨c, ec, hc⟩, q1, q2⟩ := hv rfl
    rw [ec, show (2 : Int32) = nI 2 from rfl, nI_lt' (by omega) (by omega)] at q2
    have hv3 : ¬ nI c < 0 ∧ nI c < 3 := ⟨nI_pos (by omega), nI_lt (b := 3) (by omega) (by decide)⟩
    have r7 : zh_r (zS h a' p' A K F b) 199 7 = .ref 202 := by rw [zS_r, S.r, rx_199_7]
    have nc : (nI c).toNatClampNeg = c := nI_clamp (by omega)
    rw [zi_bI_t, if_neg (by decide), b17_12 (s_g0 S) (s_g1 S), zS_7, ec, p_133, decide_eq_true hv3]
    simp only [Option.bind_some, Option.toList_some, Option.toList_none, List.cons_append, List.nil_append]
    rw [b17_21, zi_bI_t, if_neg (by decide), b17_24 (s_g2 S) (s_g3 S) (by rw [r7, zq_rf]) (by rw [r7, zq_rf, zS_n, S.n]; decide) (by rw [r7, zq_rf, zS_k, S.k, kx_202]; exact zj_n (by omega) (by decide)) (by rw [r7, zq_rf, zS_k, S.k, kx_202]), r7, zq_rf, nc, zS_F]
    by_cases q : F c < 0
    · obtain ⟨v, a2, p2, e2, T2, P2, hv2⟩ := s_tn S (b := b) T' P' (lo := 0) (hi := 99)
      rw [if_pos q, b17_40 (s_g2 S) (s_g3 S), e2]
      simp only [Option.bind_some, Option.toList_some, Option.toList_none, List.cons_append, List.nil_append]
      rw [b17_48]
      cases v with
      | false => exact ⟨false, _, by rw [zi_bI_f, if_pos rfl, b17_51], a2, p2, A, K, F, b, rfl, T2, P2⟩
      | true =>
        obtain ⟨⟨w, ew, hw⟩, -, -⟩ := hv2 rfl
        have r7' : zh_r (zS h a2 p2 A K F b) 199 7 = .ref 202 := by rw [zS_r, S.r, rx_199_7]
        have P3 : PP p2 A K (up F c (nI w)) := ⟨P2.1, P2.2.1, fun d hd => by
          by_cases z : d = c
          · subst z; exact Or.inr ⟨w, up_s _ _ _, hw⟩
          · rw [up_n _ _ z]; exact P2.2.2 d hd⟩
        obtain ⟨v, m, e3, Z⟩ := s_ts S (b := b) T2 P3
        rw [zi_bI_t, if_neg (by decide), b17_53 (s_g2 S) (s_g3 S) (by rw [r7', zq_rf]) (s_g0 S) (s_g1 S) (by rw [r7', zq_rf, zS_n, S.n]; decide) (by rw [r7', zq_rf, zS_k, S.k, kx_202]; exact zj_n (by omega) (by decide)) (by rw [r7', zq_rf, zS_k, S.k, kx_202]), r7', zq_rf, nc, zS_7, ew, zS_wF, e3]
        simp only [Option.bind_some, Option.toList_some, Option.toList_none, List.cons_append, List.nil_append]
        exact ⟨v, m, by rw [b17_68 (zi_bI_01 v)], Z⟩
    · obtain ⟨v, m, e2, Z⟩ := s_ref S (b := b) T' P' (w := 4)
      rw [if_neg q, b17_33 (s_g2 S) (s_g3 S), e2]
      simp only [Option.bind_some, Option.toList_some, Option.toList_none, List.cons_append, List.nil_append]
      exact ⟨v, m, by rw [b17_39 (zi_bI_01 v)], Z⟩
theorem s_kl (S : Sh h) {act : Nat} (ha : act ≤ 2) : ∀ d i, i + d = 41 → ∀ {a p A K F : Nat → Int32} {b : Bool}, TS a t → PP p A K F → ZB h t (zv 4 16 6 [.ref 199, .ref 197, .int (nI act), .int (nI i)] [] (zS h a p A K F b))
  | 0, i, hi, a, p, A, K, F, b, T, P => by
    have e : i = 41 := by omega
    subst e
    obtain ⟨v, m, e2, Z⟩ := s_ref S (b := b) T P (w := 5)
    rw [b16_6, if_pos (by decide), b16_132 (s_g2 S) (s_g3 S), e2]
    simp only [Option.bind_some, Option.toList_some, Option.toList_none, List.cons_append, List.nil_append]
    exact ⟨v, m, by rw [b16_138 (zi_bI_01 v)], Z⟩
  | d + 1, i, hi, a, p, A, K, F, b, T, P => by
    have bad : ∀ {w : Int32}, ZB h t (zv 4 16 41 [.ref 199, .ref 197, .int (nI act), .int (nI i)] [.int w, .ref 197, .ref 199] (zS h a p A K F b)) := fun {w} => by
      obtain ⟨v, m, e2, Z⟩ := s_ref S (b := b) T P (w := w)
      rw [b16_41 (s_g2 S) (s_g3 S), e2]
      simp only [Option.bind_some, Option.toList_some, Option.toList_none, List.cons_append, List.nil_append]
      exact ⟨v, m, by rw [b16_44 (zi_bI_01 v)], Z⟩
    have bad27 : ZB h t (zv 4 16 27 [.ref 199, .ref 197, .int (nI act), .int (nI i)] [] (zS h a p A K F b)) := by
      rw [b16_27 (s_g0 S) (s_g1 S)]
      split
      · rw [b16_36]; exact bad
      · rw [b16_40]; exact bad
    rw [b16_6, if_neg (fun q => by rw [show (40 : Int32) = nI 40 from rfl, nI_lt' (by omega) (by omega)] at q; omega), b16_12 (s_g0 S) (s_g1 S), zS_7]
    by_cases q0 : a 2 = 0
    · rw [if_pos q0]; exact bad27
    · rw [if_neg q0, b16_19 (s_g0 S) (s_g1 S), zS_7]
      by_cases q1 : a 2 = 1
      · rw [if_pos q1]; exact bad27
      · obtain ⟨⟨sv, esv⟩, ⟨k, ek, hk, hik⟩, hf⟩ := id P
        rw [if_neg q1, b16_45 (s_g2 S) (s_g3 S), zS_9, ek, if_neg (nI_pos (by omega)), b16_52 (s_g2 S) (s_g3 S), zS_9, ek]
        by_cases q4 : nI k < 40
        · have hk4 : k < 40 := by rw [show (40 : Int32) = nI 40 from rfl, nI_lt' (by omega) (by omega)] at q4; exact q4
          obtain ⟨v, p', e2, P', hv⟩ := s_nw S (a := a) (b := b) P (w := 3)
          rw [if_pos q4, b16_68 (s_g2 S) (s_g3 S), e2]
          simp only [Option.bind_some, Option.toList_some, Option.toList_none, List.cons_append, List.nil_append]
          rw [b16_74]
          cases v with
          | false => exact ⟨false, _, by rw [zi_bI_f, if_pos rfl, b16_77], a, p', A, K, F, b, rfl, T, P'⟩
          | true =>
            obtain ⟨w, ew, hw⟩ := T.2 (hv rfl).1
            have ep : p' = p := (hv rfl).2
            subst ep
            have r5 : ∀ {A K : Nat → Int32}, zh_r (zS h a p' A K F b) 199 5 = .ref 200 := fun {A K} => by rw [zS_r, S.r, rx_199_5]
            have r6 : ∀ {A K : Nat → Int32}, zh_r (zS h a p' A K F b) 199 6 = .ref 201 := fun {A K} => by rw [zS_r, S.r, rx_199_6]
            have zz : ¬ (nI k < 0 ∨ 40 ≤ (nI k).toNatClampNeg) := zj_n hk4 (by decide)
            have nc : (nI k).toNatClampNeg = k := nI_clamp (by omega)
            obtain ⟨A2, eA2⟩ : ∃ A2, A2 = up A k (nI act) := ⟨_, rfl⟩
            obtain ⟨K2, eK2⟩ : ∃ K2, K2 = up K k (nI w) := ⟨_, rfl⟩
            obtain ⟨p2, ep2⟩ : ∃ p2, p2 = up p' 2 (nI (k + 1)) := ⟨_, rfl⟩
            have P2 : PP p2 A2 K2 F := by
              refine ⟨?_, ⟨k + 1, by rw [ep2, up_s], by omega, fun j hj => ?_⟩, hf⟩
              · obtain ⟨e, q⟩ := esv
                exact ⟨sv, by rw [ep2, up_n _ _ (by decide)]; exact e, q⟩
              · by_cases z : j = k
                · subst z; exact ⟨⟨act, by rw [eA2, up_s], ha⟩, w, by rw [eK2, up_s], hw⟩
                · obtain ⟨⟨a3, e3, h3⟩, q3, e4, h4⟩ := hik j (by omega)
                  exact ⟨⟨a3, by rw [eA2, up_n _ _ z]; exact e3, h3⟩, q3, by rw [eK2, up_n _ _ z]; exact e4, h4⟩
            obtain ⟨a2, e5, T2⟩ := T.sc S (p := p2) (A := A2) (K := K2) (F := F) (b := b) (u := .double 0)
            have go : zv 4 16 79 [.ref 199, .ref 197, .int (nI act), .int (nI i)] [] (zS h a p' A K F b) = if a2 2 = 4 then zv 4 16 124 [.ref 199, .ref 197, .int (nI act), .int (nI i)] [] (zS h a2 p2 A2 K2 F b) else zv 4 16 126 [.ref 199, .ref 197, .int (nI act), .int (nI i)] [] (zS h a2 p2 A2 K2 F b) := by
              rw [b16_79 (s_g2 S) (s_g3 S) (by rw [r5, zq_rf]) (by rw [r5, zq_rf, zS_n, S.n]; decide) (by rw [r5, zq_rf, zS_k, S.k, kx_200, zS_9, ek]; exact zz) (by rw [r5, zq_rf, zS_k, S.k, kx_200]) (by rw [r6, zq_rf]), r5, r6, zq_rf, zq_rf, zS_9, ek, nc, zS_wA, ← eA2, b16_94 (s_g2 S) (s_g3 S) (s_g0 S) (s_g1 S) (by rw [zS_n, S.n]; decide) (by rw [zS_k, S.k, kx_201, zS_9, ek]; exact zz) (by rw [zS_k, S.k, kx_201]), zS_9, ek, nc, zS_7, ew, zS_wK, ← eK2, b16_104 (s_g2 S) (s_g3 S) (s_g2 S) (s_g3 S) (s_g0 S) (s_g1 S), zS_9, ek, nI_s, zS_w9, ← ep2, e5]
              simp only [Option.bind_some, Option.toList_some, Option.toList_none, List.cons_append, List.nil_append]
              rw [b16_116 (s_g0 S) (s_g1 S), zS_7]
            rw [zi_bI_t, if_neg (by decide), go]
            by_cases q6 : a2 2 = 4
            · rw [if_pos q6, b16_124]
              exact ⟨true, _, rfl, a2, p2, A2, K2, F, b, rfl, T2, P2⟩
            · rw [if_neg q6, b16_126, nI_s]
              exact s_kl S ha d (i + 1) (by omega) T2 P2
        · obtain ⟨v, m, e2, Z⟩ := s_ref S (b := b) T P (w := 5)
          rw [if_neg q4, b16_61 (s_g2 S) (s_g3 S), e2]
          simp only [Option.bind_some, Option.toList_some, Option.toList_none, List.cons_append, List.nil_append]
          exact ⟨v, m, by rw [b16_67 (zi_bI_01 v)], Z⟩
end R33I
