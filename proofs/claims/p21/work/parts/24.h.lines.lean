/-! THE REFERENCE's lines of a text -/
section R24H
variable {h : zi_Hp} {w T F : Nat → Int32} {b : Bool} {t : Nat}
theorem nI_f0 {f : Nat} (hf : f ≤ 5) : nI f = 0 ↔ f = 0 := nI_eq' (b := 0) (by omega) (by decide)
theorem WI.f0 {p so f : Nat} (W : WI t w p so f) : w 13 = 0 ↔ f = 0 := by
  rw [W.2.2.2.2.2.2.1]; exact nI_f0 W.2.2.2.2.2.2.2
theorem WI.fp {p so f : Nat} (W : WI t w p so f) : 0 < w 13 ↔ ¬ f = 0 := by
  rw [W.2.2.2.2.2.2.1]
  have := W.2.2.2.2.2.2.2
  exact ⟨fun h0 hf => by rw [hf] at h0; exact absurd h0 (by decide), fun h0 => nI_lt (a := 0) (by omega) (by omega)⟩
/-- a fault told in a rule's place, where none is told yet -/
theorem rq2 (w : Nat → Int32) {p so f c : Nat} {g : Int32} (W : WI t w p so f) (hc1 : 1 ≤ c) (hc : c ≤ 5) : ∃ f', WI t (rqF w g (nI c)) p so f' ∧ (f' = 0 → f = 0 ∧ ¬ g = 0) ∧ (¬ f = 0 → ¬ f' = 0) := by
  obtain ⟨f', Wf, h1, -, h3⟩ := W.rq (g := g) hc
  exact ⟨f', Wf, fun h0 => ⟨(h1 h0).1, (h1 h0).2 hc1⟩, fun h0 => by rw [h3 h0]; exact h0⟩
/-- what a number's reading leaves -/
def RnG (h : zi_Hp) (t p so f lo hi : Nat) (w T F : Nat → Int32) (b : Bool) (o : Option zi_Rt) : Prop := ∃ v w', o = some (some (.int (nI v)), zP h w' T F b) ∧ v ≤ 99 ∧ (∀ j, 14 < j → w' j = w j) ∧ ∃ p' so' f', WI t w' p' so' f' ∧ p ≤ p' ∧ (f' = 0 → f = 0 ∧ so = 2 ∧ lo ≤ v ∧ v ≤ hi) ∧ (f' = 0 → ¬ so' = 0 → p < p')
theorem p_rn (S : Sh h) (ht : t ≤ 160) (et : zh_i h 211 8 = nI t) {p so f lo hi : Nat} (hh : hi ≤ 99) (hl : lo ≤ 99) (W : WI t w p so f) {u3 : Value} : RnG h t p so f lo hi w T F b (zv 3 187 0 [.ref 211, .int (nI lo), .int (nI hi), u3] [] (zP h w T F b)) := by
  -- the last stage
  have last : ∀ w2 f2, WI t w2 p so f2 → (∀ j, 14 < j → w2 j = w j) → (f2 = 0 → f = 0 ∧ so = 2 ∧ nI lo ≤ w2 12 ∧ w2 12 ≤ nI hi) → RnG h t p so f lo hi w T F b (zv 3 187 49 [.ref 211, .int (nI lo), .int (nI hi), u3] [] (zP h w2 T F b)) := fun w2 f2 W2 hw2 h0 => by
    have rd : ∀ v', v' ≤ 99 → (f2 = 0 → w2 12 = nI v') → RnG h t p so f lo hi w T F b (zv 3 187 64 [.ref 211, .int (nI lo), .int (nI hi), u3] [.int (nI v')] (zP h w2 T F b)) := fun v' hv' hvv => by
      obtain ⟨w', e', hw', p', so', f', W', hp', hs', hf'⟩ := p_rd S ht et (T := T) (F := F) (b := b) W2 (u1 := .double 0)
      rw [b187_64 (p_g0 S) (p_g1 S), e']
      simp only [Option.bind_some, Option.toList_some, Option.toList_none, List.cons_append, List.nil_append]
      rw [b187_69]
      have f20 : f' = 0 → f2 = 0 := fun h9 => Decidable.by_contra (fun h8 => h8 (by have := (hf' h8).2; omega))
      refine ⟨v', w', rfl, hv', fun j hj => (hw' j hj).trans (hw2 j hj), p', so', f', W', hp', fun h9 => ?_, fun h9 => hs' (f20 h9)⟩
      obtain ⟨k1, k2, k3, k4⟩ := h0 (f20 h9)
      rw [hvv (f20 h9)] at k3 k4
      rw [Int32.le_iff_toInt_le, nI_toInt (by omega), nI_toInt (by omega)] at k4
      rw [Int32.le_iff_toInt_le, nI_toInt (by omega), nI_toInt (by omega)] at k3
      exact ⟨k1, k2, by omega, by omega⟩
    rw [b187_49 (p_g0 S) (p_g1 S), zP_w (by decide) (by decide)]
    by_cases h2 : f2 = 0
    · obtain ⟨v, hv, ev⟩ := W2.2.2.2.2.2.1 (h0 h2).2.1
      rw [if_pos (W2.f0.mpr h2), b187_56 (p_g0 S) (p_g1 S), zP_w (by decide) (by decide), ev]
      exact rd v hv (fun _ => ev)
    · rw [if_neg (fun h9 => h2 (W2.f0.mp h9)), b187_63, show (0 : Int32) = nI 0 from rfl]
      exact rd 0 (by decide) (fun h9 => absurd h9 h2)
  have mid : ∀ w2 f2, WI t w2 p so f2 → (∀ j, 14 < j → w2 j = w j) → (f2 = 0 → f = 0 ∧ so = 2) → RnG h t p so f lo hi w T F b (zv 3 187 25 [.ref 211, .int (nI lo), .int (nI hi), u3] [] (zP h w2 T F b)) := fun w2 f2 W2 hw2 h0 => by
    rw [b187_25 (p_g0 S) (p_g1 S), zP_w (by decide) (by decide)]
    by_cases h2 : f2 = 0
    · rw [if_pos (W2.f0.mpr h2), b187_32 (p_g0 S) (p_g1 S), zP_w (by decide) (by decide), c_inI]
      simp only [Option.bind_some, Option.toList_some, Option.toList_none, List.cons_append, List.nil_append]
      obtain ⟨f3, W3, g1, -⟩ := rq2 w2 (g := if nI lo ≤ w2 12 ∧ w2 12 ≤ nI hi then 1 else 0) W2 (c := 3) (by decide) (by decide)
      rw [b187_45 (p_g0 S) (p_g1 S), p_rq S]
      simp only [Option.bind_some, Option.toList_some, Option.toList_none, List.cons_append, List.nil_append]
      refine last _ f3 W3 (fun j hj => by rw [rq_hi (by omega) (by omega)]; exact hw2 j hj) (fun h9 => ?_)
      obtain ⟨k1, k2⟩ := h0 h2
      rw [rq_hi (by decide) (by decide)]
      have := (g1 h9).2
      by_cases hr : nI lo ≤ w2 12 ∧ w2 12 ≤ nI hi
      · exact ⟨k1, k2, hr.1, hr.2⟩
      · rw [if_neg hr] at this; exact absurd rfl this
    · rw [if_neg (fun h9 => h2 (W2.f0.mp h9))]
      exact last w2 f2 W2 hw2 (fun h9 => absurd h9 h2)
  rw [b187_0 (p_g0 S) (p_g1 S), zP_w (by decide) (by decide)]
  by_cases h2 : f = 0
  · have s2 : w 11 = 2 ↔ so = 2 := by
      rw [W.2.2.2.1]; exact nI_eq' (b := 2) (by have := W.2.2.2.2.1; omega) (by decide)
    have go : ∀ g : Int32, (¬ g = 0 → so = 2) → RnG h t p so f lo hi w T F b (zv 3 187 21 [.ref 211, .int (nI lo), .int (nI hi), u3] [.int g, .ref 211] (zP h w T F b)) := fun g hg => by
      obtain ⟨f3, W3, g1, -⟩ := rq2 w (g := g) W (c := 2) (by decide) (by decide)
      rw [b187_21 (p_g0 S) (p_g1 S), p_rq S]
      simp only [Option.bind_some, Option.toList_some, Option.toList_none, List.cons_append, List.nil_append]
      exact mid _ f3 W3 (fun j hj => rq_hi (by omega) (by omega)) (fun h9 => ⟨(g1 h9).1, hg (g1 h9).2⟩)
    rw [if_pos (W.f0.mpr h2), b187_7 (p_g0 S) (p_g1 S), zP_w (by decide) (by decide)]
    by_cases h11 : w 11 = 2
    · rw [if_pos h11, b187_16]; exact go 1 (fun _ => s2.mp h11)
    · rw [if_neg h11, b187_20]; exact go 0 (fun h9 => absurd rfl h9)
  · rw [if_neg (fun h9 => h2 (W.f0.mp h9))]
    exact mid w f W (fun _ _ => rfl) (fun h9 => absurd h9 h2)
/-- the keys, the finds that are told -/
def TI (w T : Nat → Int32) (tm : Nat) : Prop := w 18 = nI tm ∧ tm ≤ 40 ∧ ∀ k, k < tm → ∃ a ke, a ≤ 2 ∧ ke ≤ 99 ∧ T (2 * k) = nI a ∧ T (2 * k + 1) = nI ke
def FI (w F : Nat → Int32) (fm : Nat) : Prop := w 20 = nI fm ∧ fm ≤ 3 ∧ (∀ k, k < fm → ∃ c ke, c < 3 ∧ ke ≤ 99 ∧ F (2 * k) = nI c ∧ F (2 * k + 1) = nI ke) ∧ ∀ i j, i < j → j < fm → ¬ F (2 * i) = F (2 * j)
def PA (t : Nat) (w T F : Nat → Int32) (p so f : Nat) : Prop := WI t w p so f ∧ (∃ tm, TI w T tm) ∧ (∃ fm, FI w F fm) ∧ (f = 0 → ∃ v, 2 ≤ v ∧ v ≤ 4 ∧ w 16 = nI v)
theorem TI.same {w' : Nat → Int32} {tm : Nat} (I : TI w T tm) (e : ∀ j, 14 < j → w' j = w j) : TI w' T tm := ⟨by rw [e 18 (by decide)]; exact I.1, I.2⟩
theorem FI.same {w' : Nat → Int32} {fm : Nat} (I : FI w F fm) (e : ∀ j, 14 < j → w' j = w j) : FI w' F fm := ⟨by rw [e 20 (by decide)]; exact I.1, I.2⟩
/-- what a part of a line leaves -/
def PG (h : zi_Hp) (t p so f : Nat) (o : Option zi_Rt) : Prop := ∃ w' T' F' b', o = some (none, zP h w' T' F' b') ∧ ∃ p' so' f', PA t w' T' F' p' so' f' ∧ p ≤ p' ∧ (f' = 0 → f = 0 ∧ so = 2)
/-- is a client told already -/
theorem p_f1 (S : Sh h) {fm : Nat} (I : FI w F fm) {x : Int32} {u2 u3 : Value} : ∃ b' : Bool, zv 1 188 0 [.ref 211, .int x, u2, u3] [] (zP h w T F b) = some (some (.int (zi_bI b')), zP h w T F b) ∧ (b' = false → ∀ k, k < fm → ¬ F (2 * k) = x) := by
  have lp : ∀ d i (a : Bool), i + d = fm → (a = false → ∀ k, k < i → ¬ F (2 * k) = x) → ∃ b' : Bool, zv 1 188 4 [.ref 211, .int x, .int (zi_bI a), .int (nI i)] [] (zP h w T F b) = some (some (.int (zi_bI b')), zP h w T F b) ∧ (b' = false → ∀ k, k < fm → ¬ F (2 * k) = x) := by
    intro d
    have hf3 := I.2.1
    induction d with
    | zero =>
      intro i a hi ha
      have e : i = fm := by omega
      subst e
      rw [b188_4 (p_g0 S) (p_g1 S), zP_w (by decide) (by decide), I.1, if_neg Int32.lt_irrefl, b188_40 (bI_01 a)]
      exact ⟨a, rfl, ha⟩
    | succ d ih =>
      intro i a hi ha
      have e3 : nI i < nI fm := nI_lt (by omega) (by omega)
      have r19 : zh_r (zP h w T F b) 211 19 = .ref 220 := by rw [zP_r, S.r, rx_211_19]
      have e2 : (2 : Int32) * nI i = nI (2 * i) := by have := nI_i2 (a := i) (i := 0); rw [show nI 0 = 0 from rfl, Int32.add_zero] at this; exact this
      have f0 : (∀ k, k < i + 1 → ¬ F (2 * k) = x) → ∃ b' : Bool, zv 1 188 32 [.ref 211, .int x, .int (zi_bI a), .int (nI i)] [] (zP h w T F b) = some (some (.int (zi_bI b')), zP h w T F b) ∧ (b' = false → ∀ k, k < fm → ¬ F (2 * k) = x) := fun h9 => by
        rw [b188_32, b188_33, nI_s]
        exact ih (i + 1) false (by omega) (fun _ => h9)
      have f1 : ∃ b' : Bool, zv 1 188 28 [.ref 211, .int x, .int (zi_bI a), .int (nI i)] [] (zP h w T F b) = some (some (.int (zi_bI b')), zP h w T F b) ∧ (b' = false → ∀ k, k < fm → ¬ F (2 * k) = x) := by
        rw [b188_28, b188_33, nI_s]
        exact ih (i + 1) true (by omega) (fun h0 => absurd h0 (by decide))
      rw [b188_4 (p_g0 S) (p_g1 S), zP_w (by decide) (by decide), I.1, if_pos e3, b188_12]
      by_cases h0 : zi_bI a = 0
      · rw [if_pos h0, b188_16 (p_g0 S) (p_g1 S) (by rw [r19, zq_rf]) (by rw [r19, zq_rf, zP_n, S.n]; decide) (by rw [r19, zq_rf, zP_k, S.k, kx_220, e2]; exact zj_n (by omega) (by decide)) (by rw [r19, zq_rf, zP_k, S.k, kx_220]), r19, zq_rf, zP_F, e2, nI_clamp (by omega)]
        by_cases hx : F (2 * i) = x
        · rw [if_pos hx]; exact f1
        · rw [if_neg hx]
          refine f0 (fun k hk => ?_)
          by_cases e : k = i
          · subst e; exact hx
          · have a0 : a = false := by cases a with
              | false => rfl
              | true => exact absurd h0 (by decide)
            exact ha a0 k (by omega)
      · rw [if_neg h0]; exact f1
  rw [b188_0]
  exact lp fm 0 false (Nat.zero_add _) (fun _ k hk => absurd hk (Nat.not_lt_zero k))
/-- a find -/
theorem p_fd (S : Sh h) (ht : t ≤ 160) (et : zh_i h 211 8 = nI t) {p so f : Nat} (P : PA t w T F p so f) {u1 u2 : Value} : PG h t p so f (zv 4 189 0 [.ref 211, u1, u2] [] (zP h w T F b)) := by
  obtain ⟨W, ⟨tm, I1⟩, ⟨fm, I2⟩, I3⟩ := P
  have s2 : w 11 = 2 ↔ so = 2 := by
    rw [W.2.2.2.1]; exact nI_eq' (b := 2) (by have := W.2.2.2.2.1; omega) (by decide)
  -- behind the checks
  have st4 : ∀ w2 f2, WI t w2 p so f2 → (∀ j, 14 < j → w2 j = w j) → (f2 = 0 → f = 0 ∧ so = 2 ∧ (∃ c, c < 3 ∧ w2 12 = nI c) ∧ ∀ k, k < fm → ¬ F (2 * k) = w2 12) → PG h t p so f (zv 4 189 77 [.ref 211, u1, u2] [] (zP h w2 T F b)) := fun w2 f2 W2 hw2 h0 => by
    rw [b189_77 (p_g0 S) (p_g1 S), zP_w (by decide) (by decide)]
    by_cases h2 : f2 = 0
    · obtain ⟨k1, k2, ⟨c, hc, ec⟩, k4⟩ := h0 h2
      rw [if_neg (fun h9 => (W2.fp.mp h9) h2), b189_85 (p_g0 S) (p_g1 S), zP_w (by decide) (by decide)]
      obtain ⟨w3, e3, hw3, p3, so3, f3, W3, hp3, -, -⟩ := p_rd S ht et (T := T) (F := F) (b := b) W2 (u1 := .double 0)
      rw [e3]
      simp only [Option.bind_some, Option.toList_some, Option.toList_none, List.cons_append, List.nil_append]
      obtain ⟨v, w4, e4, hv, hw4, p4, so4, f4, W4, hp4, hf4, -⟩ := p_rn S ht et (T := T) (F := F) (b := b) (lo := 0) (hi := 99) (by decide) (by decide) W3 (u3 := .double 0)
      have e4' : zv 3 187 0 [.ref 211, .int 0, .int 99, .double 0] [] (zP h w3 T F b) = some (some (.int (nI v)), zP h w4 T F b) := e4
      rw [b189_94 (p_g0 S) (p_g1 S), e4']
      simp only [Option.bind_some, Option.toList_some, Option.toList_none, List.cons_append, List.nil_append]
      have hw : ∀ j, 14 < j → w4 j = w j := fun j hj => ((hw4 j hj).trans (hw3 j hj)).trans (hw2 j hj)
      have h20 : w4 20 = nI fm := by rw [hw 20 (by decide)]; exact I2.1
      have hp : p ≤ p4 := by omega
      rw [b189_101 (p_g0 S) (p_g1 S), zP_w (by decide) (by decide)]
      by_cases h4 : f4 = 0
      · have hfm : fm < 3 := by
          refine Decidable.by_contra (fun h9 => ?_)
          have e9 : fm = 3 := by have := I2.2.1; omega
          obtain ⟨c0, -, a0, -, b0, -⟩ := I2.2.2.1 0 (by omega)
          obtain ⟨c1, -, a1, -, b1, -⟩ := I2.2.2.1 1 (by omega)
          obtain ⟨c2, -, a2, -, b2, -⟩ := I2.2.2.1 2 (by omega)
          have d0 := k4 0 (by omega)
          have d1 := k4 1 (by omega)
          have d2 := k4 2 (by omega)
          have d3 := I2.2.2.2 0 1 (by omega) (by omega)
          have d4 := I2.2.2.2 0 2 (by omega) (by omega)
          have d5 := I2.2.2.2 1 2 (by omega) (by omega)
          rw [b0, ec, nI_eq' (by omega) (by omega)] at d0
          rw [b1, ec, nI_eq' (by omega) (by omega)] at d1
          rw [b2, ec, nI_eq' (by omega) (by omega)] at d2
          rw [b0, b1, nI_eq' (by omega) (by omega)] at d3
          rw [b0, b2, nI_eq' (by omega) (by omega)] at d4
          rw [b1, b2, nI_eq' (by omega) (by omega)] at d5
          omega
        have r19 : zh_r (zP h w4 T F b) 211 19 = .ref 220 := by rw [zP_r, S.r, rx_211_19]
        have e2 : (2 : Int32) * nI fm = nI (2 * fm) := by have := nI_i2 (a := fm) (i := 0); rw [show nI 0 = 0 from rfl, Int32.add_zero] at this; exact this
        have z6 : ¬ (nI (2 * fm) < 0 ∨ 6 ≤ (nI (2 * fm)).toNatClampNeg) := zj_n (by omega) (by decide)
        have z7 : ¬ (nI (2 * fm + 1) < 0 ∨ 6 ≤ (nI (2 * fm + 1)).toNatClampNeg) := zj_n (by omega) (by decide)
        rw [if_pos (W4.f0.mpr h4), b189_109 (p_g0 S) (p_g1 S) (by rw [r19, zq_rf]) (by rw [r19, zq_rf, zP_n, S.n]; decide) (by rw [r19, zq_rf, zP_k, S.k, kx_220, zP_w (by decide) (by decide), h20, e2]; exact z6) (by rw [r19, zq_rf, zP_k, S.k, kx_220]), r19, zq_rf, zP_w (by decide) (by decide), h20, e2, nI_clamp (by omega), zP_wF]
        rw [b189_127 (p_g0 S) (p_g1 S) (by rw [zP_n, S.n]; decide) (by rw [zP_k, S.k, kx_220, zP_w (by decide) (by decide), h20, e2, nI_s]; exact z7) (by rw [zP_k, S.k, kx_220]), zP_w (by decide) (by decide), h20, e2, nI_s, nI_clamp (by omega), zP_wF, b189_137 (p_g0 S) (p_g1 S) (p_g0 S) (p_g1 S), zP_w (by decide) (by decide), h20, nI_s, zP_ww _ (by decide) (by decide), b189_145]
        obtain ⟨a1, a2, a3, a4, a5, a6, a7, a8⟩ := W4
        have un : ∀ j, j ≠ 20 → up w4 20 (nI (fm + 1)) j = w4 j := fun j hj => up_n _ _ hj
        refine ⟨_, _, _, _, rfl, p4, so4, f4, ⟨⟨by rw [un 9 (by decide)]; exact a1, a2, by rw [un 10 (by decide)]; exact a3, by rw [un 11 (by decide)]; exact a4, a5, by rw [un 12 (by decide)]; exact a6, by rw [un 13 (by decide)]; exact a7, a8⟩, ⟨tm, by rw [un 18 (by decide), hw 18 (by decide)]; exact I1.1, I1.2⟩, ⟨fm + 1, up_s _ _ _, by omega, fun k hk => ?_, fun i j hij hj => ?_⟩, fun h9 => by rw [un 16 (by decide), hw 16 (by decide)]; exact I3 k1⟩, hp, fun _ => ⟨k1, k2⟩⟩
        · by_cases e : k = fm
          · subst e
            exact ⟨c, v, hc, hv, by rw [up_n _ _ (by omega), up_s]; exact ec, by rw [up_s]⟩
          · rw [up_n _ _ (by omega), up_n _ _ (by omega), up_n _ _ (by omega), up_n _ _ (by omega)]
            exact I2.2.2.1 k (by omega)
        · rw [up_n (j := 2 * i) _ _ (by omega), up_n (j := 2 * i) _ _ (by omega)]
          by_cases e : j = fm
          · subst e
            rw [up_n _ _ (by omega), up_s]
            exact k4 i hij
          · rw [up_n _ _ (by omega), up_n _ _ (by omega)]
            exact I2.2.2.2 i j hij (by omega)
      · rw [if_neg (fun h9 => h4 (W4.f0.mp h9)), b189_145]
        exact ⟨w4, T, F, b, rfl, p4, so4, f4, ⟨W4, ⟨tm, I1.same hw⟩, ⟨fm, I2.same hw⟩, fun h9 => absurd h9 h4⟩, hp, fun h9 => absurd h9 h4⟩
    · rw [if_pos (W2.fp.mpr h2), b189_84]
      exact ⟨w2, T, F, b, rfl, p, so, f2, ⟨W2, ⟨tm, I1.same hw2⟩, ⟨fm, I2.same hw2⟩, fun h9 => absurd h9 h2⟩, Nat.le_refl _, fun h9 => absurd h9 h2⟩
  have st3 : ∀ w2 f2, WI t w2 p so f2 → (∀ j, 14 < j → w2 j = w j) → (f2 = 0 → f = 0 ∧ so = 2 ∧ (∃ c, c < 3 ∧ w2 12 = nI c)) → PG h t p so f (zv 4 189 49 [.ref 211, u1, u2] [] (zP h w2 T F b)) := fun w2 f2 W2 hw2 h0 => by
    rw [b189_49 (p_g0 S) (p_g1 S), zP_w (by decide) (by decide)]
    by_cases h2 : f2 = 0
    · obtain ⟨bb, eb, hb⟩ := p_f1 S (T := T) (b := b) (I2.same hw2) (x := w2 12) (u2 := .double 0) (u3 := .double 0)
      have go : ∀ g : Int32, (¬ g = 0 → ∀ k, k < fm → ¬ F (2 * k) = w2 12) → PG h t p so f (zv 4 189 73 [.ref 211, u1, u2] [.int g, .ref 211] (zP h w2 T F b)) := fun g hg => by
        obtain ⟨f3, W3, g1, -⟩ := rq2 w2 (g := g) W2 (c := 4) (by decide) (by decide)
        rw [b189_73 (p_g0 S) (p_g1 S), p_rq S]
        simp only [Option.bind_some, Option.toList_some, Option.toList_none, List.cons_append, List.nil_append]
        refine st4 _ f3 W3 (fun j hj => by rw [rq_hi (by omega) (by omega)]; exact hw2 j hj) (fun h9 => ?_)
        obtain ⟨k1, k2, k3⟩ := h0 h2
        rw [rq_hi (by decide) (by decide)]
        exact ⟨k1, k2, k3, hg (g1 h9).2⟩
      rw [if_pos (W2.f0.mpr h2), b189_56 (p_g0 S) (p_g1 S), zP_w (by decide) (by decide), eb]
      simp only [Option.bind_some, Option.toList_some, Option.toList_none, List.cons_append, List.nil_append]
      rw [b189_65]
      cases bb with
      | false => rw [zi_bI_f, if_pos rfl, b189_68]; exact go 1 (fun _ => hb rfl)
      | true => rw [zi_bI_t, if_neg (by decide), b189_72]; exact go 0 (fun h9 => absurd rfl h9)
    · rw [if_neg (fun h9 => h2 (W2.f0.mp h9))]
      exact st4 w2 f2 W2 hw2 (fun h9 => absurd h9 h2)
  have st2 : ∀ w2 f2, WI t w2 p so f2 → (∀ j, 14 < j → w2 j = w j) → (f2 = 0 → f = 0 ∧ so = 2) → PG h t p so f (zv 4 189 25 [.ref 211, u1, u2] [] (zP h w2 T F b)) := fun w2 f2 W2 hw2 h0 => by
    rw [b189_25 (p_g0 S) (p_g1 S), zP_w (by decide) (by decide)]
    by_cases h2 : f2 = 0
    · rw [if_pos (W2.f0.mpr h2), b189_32 (p_g0 S) (p_g1 S), zP_w (by decide) (by decide), show (0 : Int64) = (nI 0).toInt64 from rfl, show (2 : Int64) = (nI 2).toInt64 from rfl, c_inI]
      simp only [Option.bind_some, Option.toList_some, Option.toList_none, List.cons_append, List.nil_append]
      obtain ⟨f3, W3, g1, -⟩ := rq2 w2 (g := if nI 0 ≤ w2 12 ∧ w2 12 ≤ nI 2 then 1 else 0) W2 (c := 3) (by decide) (by decide)
      rw [b189_45 (p_g0 S) (p_g1 S), p_rq S]
      simp only [Option.bind_some, Option.toList_some, Option.toList_none, List.cons_append, List.nil_append]
      refine st3 _ f3 W3 (fun j hj => by rw [rq_hi (by omega) (by omega)]; exact hw2 j hj) (fun h9 => ?_)
      obtain ⟨k1, k2⟩ := h0 h2
      rw [rq_hi (by decide) (by decide)]
      have := (g1 h9).2
      rcases in_or (w2 12) 0 2 (by decide) (by decide) with ⟨c, -, hc, ec, -⟩ | hr
      · exact ⟨k1, k2, c, by omega, ec⟩
      · rw [if_neg hr] at this; exact absurd rfl this
    · rw [if_neg (fun h9 => h2 (W2.f0.mp h9))]
      exact st3 w2 f2 W2 hw2 (fun h9 => absurd h9 h2)
  rw [b189_0 (p_g0 S) (p_g1 S), zP_w (by decide) (by decide)]
  by_cases h2 : f = 0
  · have go : ∀ g : Int32, (¬ g = 0 → so = 2) → PG h t p so f (zv 4 189 21 [.ref 211, u1, u2] [.int g, .ref 211] (zP h w T F b)) := fun g hg => by
      obtain ⟨f3, W3, g1, -⟩ := rq2 w (g := g) W (c := 2) (by decide) (by decide)
      rw [b189_21 (p_g0 S) (p_g1 S), p_rq S]
      simp only [Option.bind_some, Option.toList_some, Option.toList_none, List.cons_append, List.nil_append]
      exact st2 _ f3 W3 (fun j hj => rq_hi (by omega) (by omega)) (fun h9 => ⟨(g1 h9).1, hg (g1 h9).2⟩)
    rw [if_pos (W.f0.mpr h2), b189_7 (p_g0 S) (p_g1 S), zP_w (by decide) (by decide)]
    by_cases h11 : w 11 = 2
    · rw [if_pos h11, b189_16]; exact go 1 (fun _ => s2.mp h11)
    · rw [if_neg h11, b189_20]; exact go 0 (fun h9 => absurd rfl h9)
  · rw [if_neg (fun h9 => h2 (W.f0.mp h9))]
    exact st2 w f W (fun _ _ => rfl) (fun h9 => absurd h9 h2)
end R24H
