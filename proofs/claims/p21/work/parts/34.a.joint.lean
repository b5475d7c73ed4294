/-! BOTH SIDES: steps, side by side -/
/-- a world like this row -/
def Gs (x : Nat → Nat → Int32) (y : Nat → Nat → Bool) (s : Nat → Int32) : Prop := ∃ N R M B L m H r K C f, InvG s N R M B L m H r K C f ∧ CR x y s N m
def Gm (x : Nat → Nat → Int32) (y : Nat → Nat → Bool) (s : Nat → Int32) (k : Nat) : Prop := ∃ N R M B L m H r K C f, InvG s N R M B L m H r K C f ∧ CR x y s N m ∧ mu s L f 0 < k
section R34A
variable {h : zi_Hp} {W : Nat} {x x1 : Nat → Nat → Int32} {y y1 : Nat → Nat → Bool} {s s1 : Nat → Int32} {c n : Nat}
theorem Gs.gw (G : Gs x y s) : Gw x y := by
  obtain ⟨N, R, M, B, L, m, H, r, K, C, f, I, T⟩ := G
  exact ⟨s, N, R, M, B, L, m, H, r, K, C, f, I, T⟩
theorem Gm.gs {k : Nat} (G : Gm x y s k) : Gs x y s := by
  obtain ⟨N, R, M, B, L, m, H, r, K, C, f, I, T, -⟩ := G
  exact ⟨N, R, M, B, L, m, H, r, K, C, f, I, T⟩
theorem Gs.inv (G : Gs x y s) : Inv s := by
  obtain ⟨N, R, M, B, L, m, H, r, K, C, f, I, -⟩ := G
  exact ⟨N, R, M, B, L, m, H, r, K, C, f, I⟩
theorem Gs.sw (G : Gs x y s) (q : SW x1 y1 x y) : Gs x1 y1 s := by
  obtain ⟨N, R, M, B, L, m, H, r, K, C, f, I, T⟩ := G
  exact ⟨N, R, M, B, L, m, H, r, K, C, f, I, T.sw I q⟩
theorem InvG.congr {s s' : Nat → Int32} {N R M B : Nat} {L m H r : Nat → Nat} {K C : Nat → Nat → Nat} {f : Nat → Nat} (J : InvG s N R M B L m H r K C f) (e : ∀ j, j < 387 → s' j = s j) : InvG s' N R M B L m H r K C f := by
  obtain ⟨i1, ⟨i2, i3⟩, i4⟩ := J
  have ed : ∀ d, d < 3 → ∀ w, w < 24 → s' (315 + 24 * d + w) = s (315 + 24 * d + w) := fun d hd w hw => e _ (by omega)
  have ed0 : ∀ d, d < 3 → s' (315 + 24 * d) = s (315 + 24 * d) := fun d hd => e _ (by omega)
  refine ⟨i1.same (fun k hk => e k (by omega)), ⟨fun d hd => (i2 d hd).mono hd (ed d hd) (Nat.le_refl _) (fun b _ => ⟨rfl, Nat.le_refl _⟩) (Nat.le_refl _) (fun a _ _ _ => Nat.le_refl _), fun a b ha hb hab h1 h2 => ?_⟩, ?_⟩
  · unfold hoC at h1 h2
    rw [ed0 a ha] at h1
    rw [ed0 b hb] at h2
    rw [ed a ha 3 (by decide), ed b hb 3 (by decide)]
    exact i3 a b ha hb hab h1 h2
  · unfold InvS at *
    rw [sumN_congr (n := 3) (g := pnC s') (g' := pnC s) (fun d hd => pnC_e (ed0 d hd) (ed d hd 11 (by decide)))]
    exact i4
theorem CR.congr {s' : Nat → Int32} {N R M B : Nat} {L m H r : Nat → Nat} {K C : Nat → Nat → Nat} {f : Nat → Nat} (T : CR x y s N m) (I : InvG s N R M B L m H r K C f) (e : ∀ j, j < 387 → s' j = s j) : CR x y s' N m := by
  have hm : ∀ n, n < N → m n ≤ 4 := fun n hn => by have := (I.1.2.2.2.1 n hn).2.2.2.2.2.2.2.1; have := I.1.2.2.1.2.2; omega
  refine ⟨T.1.cl I.1.1.2.2 hm (fun _ _ _ => rfl) (fun _ => rfl) (fun k hk => e k (by omega)), fun c hc => ?_, fun c hc ho => ?_⟩
  · obtain ⟨k0, k1, k2, k3⟩ := T.2.1 c hc
    unfold KR
    rw [e (315 + 24 * c) (by omega), e (315 + 24 * c + 8) (by omega), e (315 + 24 * c + 9) (by omega), e (315 + 24 * c + 10) (by omega), e (315 + 24 * c + 11) (by omega)]
    exact ⟨k0, fun h1 w w1 w7 => by rw [e _ (by omega)]; exact k1 h1 w w1 w7, k2, fun h1 h2 l hl => by rw [e _ (by omega)]; exact k3 h1 h2 l hl⟩
  · rw [e _ (by omega), e _ (by omega), thA_cl I (fun k hk => e k (by omega))]
    refine T.2.2 c hc ?_
    unfold onB at ho ⊢
    rw [e _ (by omega)] at ho
    exact ho
theorem Gs.congr {s' : Nat → Int32} (G : Gs x y s) (e : ∀ j, j < 387 → s' j = s j) : Gs x y s' := by
  obtain ⟨N, R, M, B, L, m, H, r, K, C, f, I, T⟩ := G
  exact ⟨N, R, M, B, L, m, H, r, K, C, f, I.congr e, T.congr I e⟩
/-- a client starts, side by side -/
theorem Gs.start (S : Sh h) (V : Wa W) (G : Gs x y s) (hc : c < 3) {a k : Nat} (ha : a ≤ 2) (hk : k ≤ 99) : ∃ x', zv 4 77 0 [.ref W, .int (nI c), .int (nI a), .int (nI k), .double 0] [] (zC h W x y) = some (none, zC h W x' y) ∧ Gs x' y (beF s c (nI a) (nI k)) ∧ ∀ {h1 : zi_Hp} {q : zQs} {u : Value}, Sh h1 → zv 4 177 0 [.ref 211, .int (nI c), .int (nI a), .int (nI k), u] [] (zQ h1 q s) = some (none, zQ h1 q (beF s c (nI a) (nI k))) := by
  obtain ⟨N, R, M, B, L, m, H, r, K, C, f, I, T⟩ := G
  obtain ⟨x', e, Q⟩ := k_st S V T I hc ha hk (u4 := .double 0)
  exact ⟨x', e, ⟨_, _, _, _, _, _, _, _, _, _, _, I.be hc ha hk, Q⟩, fun {h1 q u} S1 => q_beg S1 I hc ha hk⟩
theorem Gs.idle (G : Gs x y s) (hc : c < 3) : Gs (u2 x (10 + 2 * c) 0 0) y (up s (315 + 24 * c) 0) := by
  obtain ⟨N, R, M, B, L, m, H, r, K, C, f, I, T⟩ := G
  exact ⟨_, _, _, _, _, _, _, _, _, _, _, I.idle hc, T.idle I hc⟩
/-- who is not idle is the same on both sides -/
theorem Gs.kr (G : Gs x y s) (hc : c < 3) : KR x y s c := by
  obtain ⟨N, R, M, B, L, m, H, r, K, C, f, I, T⟩ := G
  exact T.2.1 c hc
/-- who is not idle is not idle behind a step -/
theorem sta_nz {cd : Int32} (A : StA s c cd s1) (hs : ¬ s (315 + 24 * c) = 0) (hc : c < 3) : ¬ s1 (315 + 24 * c) = 0 := by
  have d5 : ¬ (5 : Int32) = 0 := by decide
  rcases A with ⟨-, D⟩ | ⟨-, -, D⟩ | ⟨-, -, D⟩ | ⟨-, D⟩ | ⟨-, -, D⟩ | ⟨-, -, D⟩ | ⟨-, -, rfl⟩
  · obtain ⟨n, hn, e, D⟩ := D
    rcases D with ⟨-, -, rfl⟩ | ⟨-, -, ⟨t, j, -, -, -, -, -, -, -, rfl⟩ | ⟨-, ⟨-, mm, -, -, -, rfl⟩ | ⟨-, -, -, rfl⟩ | ⟨-, -, -, rfl⟩⟩⟩
    · rw [up_n _ _ (by omega)]; exact hs
    · rw [up_n _ _ (by omega), up_n _ _ (by omega)]; exact hs
    · rw [up_s]; exact d5
    · rw [up_s]; decide
    · exact hs
  · obtain ⟨n, m9, M9, -, -, -, -, -, -, -, -, D⟩ := D
    rcases D with ⟨-, -, rfl⟩ | ⟨-, p, -, -, -, ⟨-, -, rfl⟩ | ⟨-, -, -, rfl⟩ | ⟨-, v, ls, -, -, -, -, -, rfl⟩⟩
    · rw [up_s]; exact d5
    · rw [up_s]; exact d5
    · rw [up_s]; exact d5
    · rw [up_n _ _ (by omega), sp_eq, po_0]; decide
  · obtain ⟨n, m9, -, -, -, -, -, D⟩ := D
    rcases D with ⟨-, -, rfl⟩ | ⟨-, p, -, -, -, ⟨-, -, rfl⟩ | ⟨-, -, -, rfl⟩⟩
    · rw [up_s]; exact d5
    · rw [up_s]; exact d5
    · rw [po_0]; decide
  · obtain ⟨n, r9, -, -, -, -, D⟩ := D
    rcases D with ⟨-, ⟨-, -, rfl⟩ | ⟨-, v, -, -, -, rfl⟩⟩ | ⟨-, ⟨-, -, rfl⟩ | ⟨-, ⟨-, -, rfl⟩ | ⟨-, ⟨-, j, -, -, -, -, rfl⟩ | ⟨-, -, -, rfl⟩ | ⟨-, -, -, rfl⟩⟩⟩⟩
    · rw [up_s]; exact d5
    · rw [up_s]; exact d5
    · rw [up_n _ _ (by omega)]; exact hs
    · rw [up_n _ _ (by omega)]; exact hs
    · rw [up_n _ _ (by omega)]; exact hs
    · rw [up_s]; decide
    · exact hs
  · obtain ⟨n, m9, j, -, -, -, -, -, -, -, D⟩ := D
    rcases D with ⟨-, -, rfl⟩ | ⟨-, -, -, -, rfl⟩
    · rw [up_s]; exact d5
    · rw [up_s]; exact d5
  · obtain ⟨n, m9, j, M9, -, -, -, -, -, -, -, -, -, -, D⟩ := D
    rcases D with ⟨-, -, rfl⟩ | ⟨-, ⟨-, -, rfl⟩ | ⟨-, -, -, rfl⟩ | ⟨-, v, t, ls, -, -, -, -, -, -, -, rfl⟩⟩
    · rw [up_s]; exact d5
    · rw [up_s]; exact d5
    · rw [up_s]; exact d5
    · rw [sp_eq, po_0]; decide
  · exact hs
/-- a step, side by side -/
theorem j_step (S : Sh h) (V : Wa W) (G : Gs x y s) (hc : c < 3) : ∃ cd x' y' s', zv 5 80 0 [.ref W, .int (nI c), .double 0, .double 0, .double 0] [] (zC h W x y) = some (some (.int cd), zC h W x' y') ∧ Gs x' y' s' ∧ (∀ {h1 : zi_Hp} {q : zQs}, Sh h1 → ∃ q', zv 6 174 0 [.ref 211, .int (nI c), .double 0, .double 0] [] (zQ h1 q s) = some (some (.int cd), zQ h1 q' s')) ∧ (msF s c = false → cd = 0 ∧ s' = s) ∧ (msF s c = true → ¬ cd = 0) := by
  obtain ⟨N, R, M, B, L, m, H, r, K, C, f, I, T⟩ := G
  obtain ⟨cd, s1, N', R', M', B', L', m', H', r', K', C', f', A, J, -, -⟩ := stI I hc
  obtain ⟨x', y', e, Q⟩ := sim_step S V T I hc A J (v2 := .double 0) (v3 := .double 0) (v4 := .double 0)
  refine ⟨cd, x', y', stF s s1 c cd, e, ⟨_, _, _, _, _, _, _, _, _, _, _, J.pad (fun k hk => st_o hc hk), Q⟩, fun {h1 q} S1 => q_st1 S1 I hc A J, fun hm => ?_, fun hm => ms_x I hc hm A⟩
  obtain ⟨e1, e2⟩ := ms_0 I hc hm A
  refine ⟨e1, ?_⟩
  rw [e1, e2]
  unfold stF
  rw [if_neg (by decide)]
theorem j_step0 (S : Sh h) (V : Wa W) {k : Nat} (G : Gm x y s (k + 1)) (hs : ¬ s (315 + 24 * 0) = 0) : ∃ cd x' y' s', zv 5 80 0 [.ref W, .int (nI 0), .double 0, .double 0, .double 0] [] (zC h W x y) = some (some (.int cd), zC h W x' y') ∧ Gs x' y' s' ∧ (∀ {h1 : zi_Hp} {q : zQs}, Sh h1 → ∃ q', zv 6 174 0 [.ref 211, .int (nI 0), .double 0, .double 0] [] (zQ h1 q s) = some (some (.int cd), zQ h1 q' s')) ∧ ¬ s' (315 + 24 * 0) = 0 ∧ (msF s 0 = false → cd = 0 ∧ s' = s) ∧ (msF s 0 = true → ¬ cd = 0 ∧ Gm x' y' s' k) := by
  obtain ⟨N, R, M, B, L, m, H, r, K, C, f, I, T, hmu⟩ := G
  have hc : 0 < 3 := by decide
  obtain ⟨cd, s1, N', R', M', B', L', m', H', r', K', C', f', A, J, -, hx⟩ := stI I hc
  obtain ⟨x', y', e, Q⟩ := sim_step S V T I hc A J (v2 := .double 0) (v3 := .double 0) (v4 := .double 0)
  have J2 := J.pad (s' := stF s s1 0 cd) (fun k hk => st_o hc hk)
  refine ⟨cd, x', y', stF s s1 0 cd, e, ⟨_, _, _, _, _, _, _, _, _, _, _, J2, Q⟩, fun {h1 q} S1 => q_st1 S1 I hc A J, ?_, fun hm => ?_, fun hm => ⟨ms_x I hc hm A, _, _, _, _, _, _, _, _, _, _, _, J2, Q, ?_⟩⟩
  · rw [st_o hc (fun d w hd h4 h7 => by omega)]
    exact sta_nz A hs hc
  · obtain ⟨e1, e2⟩ := ms_0 I hc hm A
    refine ⟨e1, ?_⟩
    rw [e1, e2]
    unfold stF
    rw [if_neg (by decide)]
  · have q := hx (ms_x I hc hm A)
    have e9 : mu (stF s s1 0 cd) L' f' 0 = mu s1 L' f' 0 := mu_pad hc (fun k hk => st_o hc hk)
    rw [e9]
    omega
/-- some steps, side by side -/
theorem j_goL (S : Sh h) (V : Wa W) (hc : c < 3) (hn : n < 1000) : ∀ d k, k + d = n → ∀ {x : Nat → Nat → Int32} {y : Nat → Nat → Bool} {s : Nat → Int32}, Gs x y s → ∃ v x' y' s', zv 6 79 2 [.ref W, .int (nI c), .int (nI n), .int (nI k)] [] (zC h W x y) = some (some (.int v), zC h W x' y') ∧ Gs x' y' s' ∧ ∀ {h1 : zi_Hp} {q : zQs}, Sh h1 → ∃ q', zv 7 178 2 [.ref 211, .int (nI c), .int (nI n), .int (nI k)] [] (zQ h1 q s) = some (some (.int v), zQ h1 q' s')
  | 0, k, hk, x, y, s, G => by
    have e : k = n := by omega
    subst e
    exact ⟨_, x, y, s, by rw [b79_2, if_neg Int32.lt_irrefl, b79_21], G, fun {h1 q} S1 => ⟨q, by rw [b178_2, if_neg Int32.lt_irrefl, b178_27]⟩⟩
  | d + 1, k, hk, x, y, s, G => by
    have lt : nI k < nI n := nI_lt (by omega) (by omega)
    obtain ⟨cd, x', y', s', e, G', er, m0, m1⟩ := j_step S V G hc
    have go : zv 6 79 2 [.ref W, .int (nI c), .int (nI n), .int (nI k)] [] (zC h W x y) = if cd = 0 then zv 6 79 21 [.ref W, .int (nI c), .int (nI n), .int (nI k)] [] (zC h W x' y') else zv 6 79 15 [.ref W, .int (nI c), .int (nI n), .int (nI k)] [] (zC h W x' y') := by
      rw [b79_2, if_pos lt, b79_7 (by first | (simp only [zC_n, zC_k, zC_r, S.n, wk_0 S V, wk_1 S V, wr_0_0 S V, wr_0_1 S V, wk_9 S V, cl_k S V hc, cl_r S V hc, cl_p S V hc, cl_q S V hc, zq_rf]; done) | (simp only [zC_n, zC_r, S.n, wr_0_0 S V, wr_0_1 S V, cl_r S V hc, cl_p S V hc, zq_rf]; have := V.lt; omega)) (by first | (simp only [zC_n, zC_k, zC_r, S.n, wk_0 S V, wk_1 S V, wr_0_0 S V, wr_0_1 S V, wk_9 S V, cl_k S V hc, cl_r S V hc, cl_p S V hc, cl_q S V hc, zq_rf]; done) | (simp only [zC_n, zC_r, S.n, wr_0_0 S V, wr_0_1 S V, cl_r S V hc, cl_p S V hc, zq_rf]; have := V.lt; omega)), e]
      simp only [Option.bind_some, Option.toList_some, Option.toList_none, List.cons_append, List.nil_append]
      rw [b79_12]
    obtain ⟨N, R, M, B, L, m, H, r, K, C, f, I, T⟩ := id G
    cases hm : msF s c with
    | false =>
      obtain ⟨c0, es⟩ := m0 hm
      subst es
      refine ⟨nI k, x', y', s', by rw [go, if_pos c0, b79_21], G', fun {h1 q} S1 => ⟨q, ?_⟩⟩
      rw [b178_2, if_pos lt, b178_7 (q_g0 S1) (q_g1 S1), q_ms S1 I hc, hm]
      simp only [Option.bind_some, Option.toList_some, Option.toList_none, List.cons_append, List.nil_append]
      rw [b178_12, zi_bI_f, if_pos rfl, b178_27]
    | true =>
      obtain ⟨v, x2, y2, s2, e2, G2, er2⟩ := j_goL S V hc hn d (k + 1) (by omega) G'
      refine ⟨v, x2, y2, s2, by rw [go, if_neg (m1 hm), b79_15, nI_s, e2], G2, fun {h1 q} S1 => ?_⟩
      obtain ⟨q1, f1⟩ := er (q := q) S1
      obtain ⟨q2, f2⟩ := er2 (q := q1) S1
      refine ⟨q2, ?_⟩
      rw [b178_2, if_pos lt, b178_7 (q_g0 S1) (q_g1 S1), q_ms S1 I hc, hm]
      simp only [Option.bind_some, Option.toList_some, Option.toList_none, List.cons_append, List.nil_append]
      rw [b178_12, zi_bI_t, if_neg (by decide), b178_15 (q_g0 S1) (q_g1 S1), f1]
      simp only [Option.bind_some, Option.toList_some, Option.toList_none, List.cons_append, List.nil_append]
      rw [b178_20, nI_s, f2]
/-- an act to its end, side by side -/
theorem j_doL (S : Sh h) (V : Wa W) {a k : Int32} : ∀ d i, i + d = 1000 → ∀ {x : Nat → Nat → Int32} {y : Nat → Nat → Bool} {s : Nat → Int32} {cd : Int32}, Gm x y s d → ¬ s (315 + 24 * 0) = 0 → ¬ cd = 0 → ∃ v x' y' s', zv 6 78 12 [.ref W, .int a, .int k, .int cd, .int (nI i)] [] (zC h W x y) = some (some (.int v), zC h W x' y') ∧ Gs x' y' s' ∧ ∀ {h1 : zi_Hp} {q : zQs}, Sh h1 → ∃ q', zv 7 179 7 [.ref 211, .int a, .int k] [] (zQ h1 q s) = some (some (.int v), zQ h1 q' s')
  | 0, i, hi, x, y, s, cd, G, hs, hcd => by
    obtain ⟨N, R, M, B, L, m, H, r, K, C, f, I, T, hmu⟩ := G
    omega
  | d + 1, i, hi, x, y, s, cd, G, hs, hcd => by
    have hc : 0 < 3 := by decide
    have nc : (nI 0).toNatClampNeg = 0 := nI_clamp (by omega)
    have hzc : ¬ (nI 0 < 0 ∨ 3 ≤ 0) := by decide
    obtain ⟨cd', x', y', s', e, G', er, hs', m0, m1⟩ := j_step0 S V G hs
    obtain ⟨N, R, M, B, L, m, H, r, K, C, f, I, T, hmu⟩ := id G
    have go : zv 6 78 12 [.ref W, .int a, .int k, .int cd, .int (nI i)] [] (zC h W x y) = zv 6 78 12 [.ref W, .int a, .int k, .int cd', .int (nI (i + 1))] [] (zC h W x' y') := by
      rw [b78_12, if_pos (show nI i < 1000 from nI_lt (b := 1000) (by omega) (by decide)), b78_20, if_neg hcd, b78_24 (by first | (simp only [zC_n, zC_k, zC_r, S.n, wk_0 S V, wk_1 S V, wr_0_0 S V, wr_0_1 S V, wk_9 S V, cl_k S V hc, cl_r S V hc, cl_p S V hc, cl_q S V hc, zq_rf]; done) | (simp only [zC_n, zC_r, S.n, wr_0_0 S V, wr_0_1 S V, cl_r S V hc, cl_p S V hc, zq_rf]; have := V.lt; omega)) (by first | (simp only [zC_n, zC_k, zC_r, S.n, wk_0 S V, wk_1 S V, wr_0_0 S V, wr_0_1 S V, wk_9 S V, cl_k S V hc, cl_r S V hc, cl_p S V hc, cl_q S V hc, zq_rf]; done) | (simp only [zC_n, zC_r, S.n, wr_0_0 S V, wr_0_1 S V, cl_r S V hc, cl_p S V hc, zq_rf]; have := V.lt; omega)), show (Value.int 0) = Value.int (nI 0) from rfl, e]
      simp only [Option.bind_some, Option.toList_some, Option.toList_none, List.cons_append, List.nil_append]
      rw [b78_29, nI_s]
    have ms : ∀ {h1 : zi_Hp} {q : zQs}, Sh h1 → zv 4 176 0 [.ref 211, .int 0] [] (zQ h1 q s) = some (some (.int (zi_bI (msF s 0))), zQ h1 q s) := fun S1 => q_ms S1 I (c := 0) (by decide)
    cases hm : msF s 0 with
    | false =>
      obtain ⟨c0, es⟩ := m0 hm
      subst es
      obtain ⟨N2, R2, M2, B2, L2, m2, H2, r2, K2, C2, f2, I2, T2⟩ := G'
      have k4 : x' (10 + 2 * 0) 4 = s' (315 + 24 * 0 + 4) := (T2.2.1 0 (by decide)).2.1 hs 4 (by decide) (by decide)
      refine ⟨x' (10 + 2 * 0) 4, u2 x' (10 + 2 * 0) 0 0, y', up s' (315 + 24 * 0) 0, ?_, ⟨_, _, _, _, _, _, _, _, _, _, _, I2.idle hc, T2.idle I2 hc⟩, fun {h1 q} S1 => ⟨q, ?_⟩⟩
      · have r0 : zh_r (zC h W x' y') (zq (zh_r (zC h W x' y') W 1)) 0 = .ref (W + (10 + 2 * 0)) := by rw [zC_r, zC_r, wr_0_1 S V, zq_rf, cl_r S V hc]
        have fin : zv 6 78 36 [.ref W, .int a, .int k, .int cd', .int (nI (i + 1))] [] (zC h W x' y') = some (some (.int (x' (10 + 2 * 0) 4)), zC h W (u2 x' (10 + 2 * 0) 0 0) y') := by
          rw [b78_36 (by first | (simp +decide only [zC_n, zC_k, zC_r, S.n, wk_0 S V, wk_1 S V, wr_0_0 S V, wr_0_1 S V, wk_9 S V, nc, cl_k S V hc, cl_r S V hc, cl_p S V hc, cl_q S V hc, zq_rf, hzc]; done) | (simp only [zC_n, zC_r, S.n, wr_0_0 S V, wr_0_1 S V, nc, cl_r S V hc, cl_p S V hc, zq_rf]; have := V.lt; omega)) (by first | (simp +decide only [zC_n, zC_k, zC_r, S.n, wk_0 S V, wk_1 S V, wr_0_0 S V, wr_0_1 S V, wk_9 S V, nc, cl_k S V hc, cl_r S V hc, cl_p S V hc, cl_q S V hc, zq_rf, hzc]; done) | (simp only [zC_n, zC_r, S.n, wr_0_0 S V, wr_0_1 S V, nc, cl_r S V hc, cl_p S V hc, zq_rf]; have := V.lt; omega)) (by first | (simp +decide only [zC_n, zC_k, zC_r, S.n, wk_0 S V, wk_1 S V, wr_0_0 S V, wr_0_1 S V, wk_9 S V, nc, cl_k S V hc, cl_r S V hc, cl_p S V hc, cl_q S V hc, zq_rf, hzc]; done) | (simp only [zC_n, zC_r, S.n, wr_0_0 S V, wr_0_1 S V, nc, cl_r S V hc, cl_p S V hc, zq_rf]; have := V.lt; omega)) (by first | (simp +decide only [zC_n, zC_k, zC_r, S.n, wk_0 S V, wk_1 S V, wr_0_0 S V, wr_0_1 S V, wk_9 S V, nc, cl_k S V hc, cl_r S V hc, cl_p S V hc, cl_q S V hc, zq_rf, hzc]; done) | (simp only [zC_n, zC_r, S.n, wr_0_0 S V, wr_0_1 S V, nc, cl_r S V hc, cl_p S V hc, zq_rf]; have := V.lt; omega)) (by rw [zC_r, wr_0_1 S V, zq_rf, zC_k, wk_9 S V]; decide) (by first | (simp +decide only [zC_n, zC_k, zC_r, S.n, wk_0 S V, wk_1 S V, wr_0_0 S V, wr_0_1 S V, wk_9 S V, nc, cl_k S V hc, cl_r S V hc, cl_p S V hc, cl_q S V hc, zq_rf, hzc]; done) | (simp only [zC_n, zC_r, S.n, wr_0_0 S V, wr_0_1 S V, nc, cl_r S V hc, cl_p S V hc, zq_rf]; have := V.lt; omega)) (by rw [r0, zq_rf]) (by rw [r0, zq_rf, zC_n, S.n]; have := V.lt; omega) (by rw [r0, zq_rf, zC_k, cl_k S V hc]), r0, zq_rf, zC_wi (by omega), b78_52 (by first | (simp +decide only [zC_n, zC_k, zC_r, S.n, wk_0 S V, wk_1 S V, wr_0_0 S V, wr_0_1 S V, wk_9 S V, nc, cl_k S V hc, cl_r S V hc, cl_p S V hc, cl_q S V hc, zq_rf, hzc]; done) | (simp only [zC_n, zC_r, S.n, wr_0_0 S V, wr_0_1 S V, nc, cl_r S V hc, cl_p S V hc, zq_rf]; have := V.lt; omega)) (by first | (simp +decide only [zC_n, zC_k, zC_r, S.n, wk_0 S V, wk_1 S V, wr_0_0 S V, wr_0_1 S V, wk_9 S V, nc, cl_k S V hc, cl_r S V hc, cl_p S V hc, cl_q S V hc, zq_rf, hzc]; done) | (simp only [zC_n, zC_r, S.n, wr_0_0 S V, wr_0_1 S V, nc, cl_r S V hc, cl_p S V hc, zq_rf]; have := V.lt; omega)), zC_i (by omega), u2_n _ _ (by omega)]
        rw [go, b78_12]
        by_cases q : nI (i + 1) < 1000
        · rw [if_pos q, b78_20, if_pos c0, fin]
        · rw [if_neg q, fin]
      · have c0' : zv 1 147 0 [.ref 211, .int 0, .int 0, .int 0] [] (zQ h1 q s') = some (none, zQ h1 q (up s' (315 + 24 * 0) 0)) := q_cb0 S1 (c := 0) (by decide)
        have c4 : zv 1 146 0 [.ref 211, .int 0, .int 4] [] (zQ h1 q (up s' (315 + 24 * 0) 0)) = some (some (.int (up s' (315 + 24 * 0) 0 (315 + 24 * 0 + 4))), zQ h1 q (up s' (315 + 24 * 0) 0)) := q_oc4 S1 (c := 0) (by decide)
        rw [b179_7 (q_g0 S1) (q_g1 S1), ms S1, hm]
        simp only [Option.bind_some, Option.toList_some, Option.toList_none, List.cons_append, List.nil_append]
        rw [b179_12, zi_bI_f, if_pos rfl, b179_24 (q_g0 S1) (q_g1 S1), c0']
        simp only [Option.bind_some, Option.toList_some, Option.toList_none, List.cons_append, List.nil_append]
        rw [b179_31 (q_g0 S1) (q_g1 S1), c4]
        simp only [Option.bind_some, Option.toList_some, Option.toList_none, List.cons_append, List.nil_append]
        rw [b179_37, uc_0c _ _ (by decide), k4]
    | true =>
      obtain ⟨n0, Gk⟩ := m1 hm
      obtain ⟨v, x2, y2, s2, e2, G2, er2⟩ := j_doL S V (a := a) (k := k) d (i + 1) (by omega) Gk hs' n0
      refine ⟨v, x2, y2, s2, by rw [go, e2], G2, fun {h1 q} S1 => ?_⟩
      obtain ⟨q1, f1⟩ := er (q := q) S1
      obtain ⟨q2, f2⟩ := er2 (q := q1) S1
      have f1' : zv 6 174 0 [.ref 211, .int 0, .double 0, .double 0] [] (zQ h1 q s) = some (some (.int cd'), zQ h1 q1 s') := f1
      refine ⟨q2, ?_⟩
      rw [b179_7 (q_g0 S1) (q_g1 S1), ms S1, hm]
      simp only [Option.bind_some, Option.toList_some, Option.toList_none, List.cons_append, List.nil_append]
      rw [b179_12, zi_bI_t, if_neg (by decide), b179_15 (q_g0 S1) (q_g1 S1), f1']
      simp only [Option.bind_some, Option.toList_some, Option.toList_none, List.cons_append, List.nil_append]
      rw [b179_20, f2]
theorem mu_b {L f : Nat → Nat} : mu s L f c < 1000 := by
  unfold mu
  split
  · omega
  · split
    · omega
    · split
      · split <;> omega
      · split <;> omega
theorem j_does (S : Sh h) (V : Wa W) (G : Gs x y s) {a k : Nat} (ha : a ≤ 2) (hk : k ≤ 99) : ∃ v x' y' s', zv 6 78 0 [.ref W, .int (nI a), .int (nI k), .double 0, .double 0] [] (zC h W x y) = some (some (.int v), zC h W x' y') ∧ Gs x' y' s' ∧ ∀ {h1 : zi_Hp} {q : zQs}, Sh h1 → ∃ q', zv 7 179 0 [.ref 211, .int (nI a), .int (nI k)] [] (zQ h1 q s) = some (some (.int v), zQ h1 q' s') := by
  obtain ⟨N, R, M, B, L, m, H, r, K, C, f, I, T⟩ := G
  have hc : 0 < 3 := by decide
  obtain ⟨x1, e1, T1⟩ := k_st S V T I hc ha hk (u4 := .double 0)
  have I1 := I.be hc ha hk
  have e1' : zv 4 77 0 [.ref W, .int 0, .int (nI a), .int (nI k), .double 0] [] (zC h W x y) = some (none, zC h W x1 y) := e1
  have hs : ¬ beF s 0 (nI a) (nI k) (315 + 24 * 0) = 0 := by
    unfold beF
    rw [up_n _ _ (by omega), bf_0]; decide
  obtain ⟨v, x2, y2, s2, e2, G2, er2⟩ := j_doL S V (a := nI a) (k := nI k) 1000 0 rfl (cd := 4) ⟨N, R, M, B, L, m, H, r, K, C, f, I1, T1, mu_b⟩ hs (by decide)
  have e2' : zv 6 78 12 [.ref W, .int (nI a), .int (nI k), .int 4, .int 0] [] (zC h W x1 y) = some (some (.int v), zC h W x2 y2) := e2
  refine ⟨v, x2, y2, s2, ?_, G2, fun {h1 q} S1 => ?_⟩
  · rw [b78_0 (by first | (simp only [zC_n, zC_k, zC_r, S.n, wk_0 S V, wk_1 S V, wr_0_0 S V, wr_0_1 S V, wk_9 S V, cl_k S V hc, cl_r S V hc, cl_p S V hc, cl_q S V hc, zq_rf]; done) | (simp only [zC_n, zC_r, S.n, wr_0_0 S V, wr_0_1 S V, cl_r S V hc, cl_p S V hc, zq_rf]; have := V.lt; omega)) (by first | (simp only [zC_n, zC_k, zC_r, S.n, wk_0 S V, wk_1 S V, wr_0_0 S V, wr_0_1 S V, wk_9 S V, cl_k S V hc, cl_r S V hc, cl_p S V hc, cl_q S V hc, zq_rf]; done) | (simp only [zC_n, zC_r, S.n, wr_0_0 S V, wr_0_1 S V, cl_r S V hc, cl_p S V hc, zq_rf]; have := V.lt; omega)), e1']
    simp only [Option.bind_some, Option.toList_some, Option.toList_none, List.cons_append, List.nil_append]
    rw [b78_7, e2']
  · obtain ⟨q2, f2⟩ := er2 (q := q) S1
    have b0 : zv 4 177 0 [.ref 211, .int 0, .int (nI a), .int (nI k), .double 0] [] (zQ h1 q s) = some (none, zQ h1 q (beF s 0 (nI a) (nI k))) := q_beg S1 I (c := 0) (by decide) ha hk
    refine ⟨q2, ?_⟩
    rw [b179_0 (q_g0 S1) (q_g1 S1), b0]
    simp only [Option.bind_some, Option.toList_some, Option.toList_none, List.cons_append, List.nil_append]
    rw [f2]
end R34A
