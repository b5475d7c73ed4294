/-! THE REFERENCE's text -/
section R24I
variable {h : zi_Hp} {w T F : Nat → Int32} {b : Bool} {t : Nat}
/-- keys of a line -/
theorem p_ks (S : Sh h) (ht : t ≤ 160) (et : zh_i h 211 8 = nI t) {p so f a : Nat} (ha : a ≤ 2) (P : PA t w T F p so f) : PG h t p so f (zv 4 190 0 [.ref 211, .int (nI a)] [] (zP h w T F b)) := by
  -- the loop
  have lp : ∀ d, ∀ {w T F : Nat → Int32} {b : Bool} {p2 so2 f2 : Nat}, PA t w T F p2 so2 f2 → (f2 = 0 → so2 = 2 → t < p2 + d) → p ≤ p2 → (f2 = 0 → f = 0 ∧ so = 2) → PG h t p so f (zv 4 190 18 [.ref 211, .int (nI a)] [] (zP h w T F b)) := by
    intro d
    induction d with
    | zero =>
      intro w T F b p2 so2 f2 P2 hd hp h0
      obtain ⟨W, I⟩ := id P2
      have s2 : w 11 = 2 ↔ so2 = 2 := by
        rw [W.2.2.2.1]; exact nI_eq' (b := 2) (by have := W.2.2.2.2.1; omega) (by decide)
      have hex : PG h t p so f (zv 4 190 104 [.ref 211, .int (nI a)] [] (zP h w T F b)) := by
        rw [b190_104]
        exact ⟨w, T, F, b, rfl, p2, so2, f2, P2, hp, h0⟩
      rw [b190_18 (p_g0 S) (p_g1 S), zP_w (by decide) (by decide)]
      by_cases h2 : f2 = 0
      · rw [if_pos (W.f0.mpr h2), b190_25 (p_g0 S) (p_g1 S), zP_w (by decide) (by decide)]
        by_cases h11 : w 11 = 2
        · have := hd h2 (s2.mp h11)
          have := W.2.1
          omega
        · rw [if_neg h11]; exact hex
      · rw [if_neg (fun h9 => h2 (W.f0.mp h9))]; exact hex
    | succ d ih =>
      intro w T F b p2 so2 f2 P2 hd hp h0
      obtain ⟨W, ⟨tm, I1⟩, ⟨fm, I2⟩, I3⟩ := id P2
      have s2 : w 11 = 2 ↔ so2 = 2 := by
        rw [W.2.2.2.1]; exact nI_eq' (b := 2) (by have := W.2.2.2.2.1; omega) (by decide)
      have hex : PG h t p so f (zv 4 190 104 [.ref 211, .int (nI a)] [] (zP h w T F b)) := by
        rw [b190_104]
        exact ⟨w, T, F, b, rfl, p2, so2, f2, P2, hp, h0⟩
      rw [b190_18 (p_g0 S) (p_g1 S), zP_w (by decide) (by decide)]
      by_cases h2 : f2 = 0
      · rw [if_pos (W.f0.mpr h2), b190_25 (p_g0 S) (p_g1 S), zP_w (by decide) (by decide)]
        by_cases h11 : w 11 = 2
        · have hso := s2.mp h11
          have ht2 := hd h2 hso
          have go : ∀ g : Int32, (¬ g = 0 → tm < 40) → PG h t p so f (zv 4 190 48 [.ref 211, .int (nI a)] [.int g, .ref 211] (zP h w T F b)) := fun g hg => by
            obtain ⟨f3, W3, g1, -⟩ := rq2 w (g := g) W (c := 5) (by decide) (by decide)
            have hw3 : ∀ j, 14 < j → rqF w g (nI 5) j = w j := fun j hj => rq_hi (by omega) (by omega)
            rw [b190_48 (p_g0 S) (p_g1 S), p_rq S]
            simp only [Option.bind_some, Option.toList_some, Option.toList_none, List.cons_append, List.nil_append]
            rw [b190_52 (p_g0 S) (p_g1 S), zP_w (by decide) (by decide)]
            have W3' : WI t (rqF w g 5) p2 so2 f3 := W3
            have hw3' : ∀ j, 14 < j → rqF w g 5 j = w j := hw3
            by_cases h3 : f3 = 0
            · have htm := hg (g1 h3).2
              have h18 : rqF w g 5 18 = nI tm := by rw [hw3' 18 (by decide)]; exact I1.1
              have r17 : zh_r (zP h (rqF w g 5) T F b) 211 17 = .ref 219 := by rw [zP_r, S.r, rx_211_17]
              have e2 : (2 : Int32) * nI tm = nI (2 * tm) := by have := nI_i2 (a := tm) (i := 0); rw [show nI 0 = 0 from rfl, Int32.add_zero] at this; exact this
              have z6 : ¬ (nI (2 * tm) < 0 ∨ 80 ≤ (nI (2 * tm)).toNatClampNeg) := zj_n (by omega) (by decide)
              have z7 : ¬ (nI (2 * tm + 1) < 0 ∨ 80 ≤ (nI (2 * tm + 1)).toNatClampNeg) := zj_n (by omega) (by decide)
              rw [if_pos (W3'.f0.mpr h3), b190_59 (p_g0 S) (p_g1 S) (by rw [r17, zq_rf]) (by rw [r17, zq_rf, zP_n, S.n]; decide) (by rw [r17, zq_rf, zP_k, S.k, kx_219, zP_w (by decide) (by decide), h18, e2]; exact z6) (by rw [r17, zq_rf, zP_k, S.k, kx_219]), r17, zq_rf, zP_w (by decide) (by decide), h18, e2, nI_clamp (by omega), zP_wT, b190_77 (p_g0 S) (p_g1 S) (p_g0 S) (p_g1 S), zP_w (by decide) (by decide), h18, e2, nI_s]
              obtain ⟨v, w4, e4, hv, hw4, p4, so4, f4, W4, hp4, hf4, hs4⟩ := p_rn S ht et (T := up T (2 * tm) (nI a)) (F := F) (b := b) (lo := 0) (hi := 99) (by decide) (by decide) W3' (u3 := .double 0)
              have e4' : zv 3 187 0 [.ref 211, .int 0, .int 99, .double 0] [] (zP h (rqF w g 5) (up T (2 * tm) (nI a)) F b) = some (some (.int (nI v)), zP h w4 (up T (2 * tm) (nI a)) F b) := e4
              rw [e4']
              simp only [Option.bind_some, Option.toList_some, Option.toList_none, List.cons_append, List.nil_append]
              have hw : ∀ j, 14 < j → w4 j = w j := fun j hj => (hw4 j hj).trans (hw3' j hj)
              have h18' : w4 18 = nI tm := by rw [hw 18 (by decide)]; exact I1.1
              rw [b190_90 (by rw [zP_n, S.n]; decide) (by rw [zP_k, S.k, kx_219]; exact z7) (by rw [zP_k, S.k, kx_219]), nI_clamp (by omega), zP_wT, b190_93 (p_g0 S) (p_g1 S) (p_g0 S) (p_g1 S), zP_w (by decide) (by decide), h18', nI_s, zP_ww _ (by decide) (by decide)]
              obtain ⟨a1, a2, a3, a4, a5, a6, a7, a8⟩ := id W4
              have un : ∀ j, j ≠ 18 → up w4 18 (nI (tm + 1)) j = w4 j := fun j hj => up_n _ _ hj
              refine ih (p2 := p4) (so2 := so4) (f2 := f4) ⟨⟨by rw [un 9 (by decide)]; exact a1, a2, by rw [un 10 (by decide)]; exact a3, by rw [un 11 (by decide)]; exact a4, a5, by rw [un 12 (by decide)]; exact a6, by rw [un 13 (by decide)]; exact a7, a8⟩, ⟨tm + 1, up_s _ _ _, by omega, fun k hk => ?_⟩, ⟨fm, by rw [un 20 (by decide), hw 20 (by decide)]; exact I2.1, I2.2⟩, fun h9 => by rw [un 16 (by decide), hw 16 (by decide)]; exact I3 h2⟩ (fun h9 h8 => ?_) (by omega) (fun h9 => h0 h2)
              · by_cases e : k = tm
                · subst e
                  exact ⟨a, v, ha, hv, by rw [up_n _ _ (by omega), up_s], by rw [up_s]⟩
                · rw [up_n _ _ (by omega), up_n _ _ (by omega), up_n _ _ (by omega), up_n _ _ (by omega)]
                  exact I1.2.2 k (by omega)
              · have := hs4 h9 (by omega)
                omega
            · rw [if_neg (fun h9 => h3 (W3'.f0.mp h9))]
              exact ih (p2 := p2) (so2 := so2) (f2 := f3) ⟨W3', ⟨tm, I1.same hw3'⟩, ⟨fm, I2.same hw3'⟩, fun h9 => absurd h9 h3⟩ (fun h9 => absurd h9 h3) hp (fun h9 => absurd h9 h3)
          have h18 : w 18 < 40 ↔ tm < 40 := by rw [I1.1]; exact nI_lt' (b := 40) (by have := I1.2.1; omega) (by decide)
          rw [if_pos h11, b190_33 (p_g0 S) (p_g1 S), zP_w (by decide) (by decide)]
          by_cases h40 : w 18 < 40
          · rw [if_pos h40, b190_43]; exact go 1 (fun _ => h18.mp h40)
          · rw [if_neg h40, b190_47]; exact go 0 (fun h9 => absurd rfl h9)
        · rw [if_neg h11]; exact hex
      · rw [if_neg (fun h9 => h2 (W.f0.mp h9))]; exact hex
  obtain ⟨W, ⟨tm, I1⟩, ⟨fm, I2⟩, I3⟩ := id P
  have s2 : w 11 = 2 ↔ so = 2 := by
    rw [W.2.2.2.1]; exact nI_eq' (b := 2) (by have := W.2.2.2.2.1; omega) (by decide)
  have go : ∀ g : Int32, (¬ g = 0 → so = 2) → PG h t p so f (zv 4 190 14 [.ref 211, .int (nI a)] [.int g, .ref 211] (zP h w T F b)) := fun g hg => by
    obtain ⟨f3, W3, g1, -⟩ := rq2 w (g := g) W (c := 2) (by decide) (by decide)
    have hw3 : ∀ j, 14 < j → rqF w g (nI 2) j = w j := fun j hj => rq_hi (by omega) (by omega)
    rw [b190_14 (p_g0 S) (p_g1 S), p_rq S]
    simp only [Option.bind_some, Option.toList_some, Option.toList_none, List.cons_append, List.nil_append]
    exact lp (t + 1) (p2 := p) (so2 := so) (f2 := f3) ⟨W3, ⟨tm, I1.same hw3⟩, ⟨fm, I2.same hw3⟩, fun h9 => by rw [rq_hi (by decide) (by decide)]; exact I3 (g1 h9).1⟩ (fun _ _ => by omega) (Nat.le_refl _) (fun h9 => ⟨(g1 h9).1, hg (g1 h9).2⟩)
  rw [b190_0 (p_g0 S) (p_g1 S), zP_w (by decide) (by decide)]
  by_cases h11 : w 11 = 2
  · rw [if_pos h11, b190_9]; exact go 1 (fun _ => s2.mp h11)
  · rw [if_neg h11, b190_13]; exact go 0 (fun h9 => absurd rfl h9)
/-- is this the word -/
theorem p_is (S : Sh h) (ht : t ≤ 160) (et : zh_i h 211 8 = nI t) {p so f : Nat} (W : WI t w p so f) {n c1 c2 c3 c4 : Int32} : ∃ b' : Bool, zv 2 184 0 [.ref 211, .int n, .int c1, .int c2, .int c3, .int c4] [] (zP h w T F b) = some (some (.int (zi_bI b')), zP h w T F b) := by
  obtain ⟨w1, w2, ⟨bg, w3, w3'⟩, -⟩ := W
  have f0 : ∃ b' : Bool, zv 2 184 78 [.ref 211, .int n, .int c1, .int c2, .int c3, .int c4] [] (zP h w T F b) = some (some (.int (zi_bI b')), zP h w T F b) := ⟨false, by rw [b184_78, b184_79 (Or.inl rfl)]; rfl⟩
  have f1 : ∃ b' : Bool, zv 2 184 74 [.ref 211, .int n, .int c1, .int c2, .int c3, .int c4] [] (zP h w T F b) = some (some (.int (zi_bI b')), zP h w T F b) := ⟨true, by rw [b184_74, b184_79 (Or.inr rfl)]; rfl⟩
  have ad : ∀ k : Nat, nI bg + nI k = nI (bg + k) := fun k => nI_add bg k
  rw [b184_0 (p_g0 S) (p_g1 S)]
  split
  · rw [b184_13 (p_g0 S) (p_g1 S), zP_w (by decide) (by decide), w3', p_by S ht et (by omega)]
    simp only [Option.bind_some, Option.toList_some, Option.toList_none, List.cons_append, List.nil_append]
    rw [b184_21]
    split
    · rw [b184_25 (p_g0 S) (p_g1 S), zP_w (by decide) (by decide), w3', show (1 : Int32) = nI 1 from rfl, ad 1, p_by S ht et (by omega)]
      simp only [Option.bind_some, Option.toList_some, Option.toList_none, List.cons_append, List.nil_append]
      rw [b184_35]
      split
      · rw [b184_39 (p_g0 S) (p_g1 S), zP_w (by decide) (by decide), w3', show (2 : Int32) = nI 2 from rfl, ad 2, p_by S ht et (by omega)]
        simp only [Option.bind_some, Option.toList_some, Option.toList_none, List.cons_append, List.nil_append]
        rw [b184_49]
        split
        · rw [b184_54]
          split
          · exact f1
          · rw [b184_59 (p_g0 S) (p_g1 S), zP_w (by decide) (by decide), w3', show (3 : Int32) = nI 3 from rfl, ad 3, p_by S ht et (by omega)]
            simp only [Option.bind_some, Option.toList_some, Option.toList_none, List.cons_append, List.nil_append]
            rw [b184_69]
            split
            · exact f1
            · exact f0
        · exact f0
      · exact f0
    · exact f0
  · exact f0
theorem p_ln (S : Sh h) (ht : t ≤ 160) (et : zh_i h 211 8 = nI t) {p so f : Nat} (W : WI t w p so f) : ∃ x, (x = -4 ∨ x = 0 ∨ x = 1 ∨ x = 2 ∨ x = 3) ∧ zv 3 185 0 [.ref 211] [] (zP h w T F b) = some (some (.int x), zP h w T F b) := by
  obtain ⟨b1, e1⟩ := p_is S ht et W (T := T) (F := F) (b := b) (n := 4) (c1 := 114) (c2 := 111) (c3 := 111) (c4 := 109)
  obtain ⟨b2, e2⟩ := p_is S ht et W (T := T) (F := F) (b := b) (n := 3) (c1 := 112) (c2 := 117) (c3 := 116) (c4 := 0)
  obtain ⟨b3, e3⟩ := p_is S ht et W (T := T) (F := F) (b := b) (n := 4) (c1 := 116) (c2 := 97) (c3 := 107) (c4 := 101)
  obtain ⟨b4, e4⟩ := p_is S ht et W (T := T) (F := F) (b := b) (n := 4) (c1 := 102) (c2 := 105) (c3 := 110) (c4 := 100)
  rw [b185_0 (p_g0 S) (p_g1 S), e1]
  simp only [Option.bind_some, Option.toList_some, Option.toList_none, List.cons_append, List.nil_append]
  rw [b185_13]
  split
  · rw [b185_18 (p_g0 S) (p_g1 S), e2]
    simp only [Option.bind_some, Option.toList_some, Option.toList_none, List.cons_append, List.nil_append]
    rw [b185_30]
    split
    · rw [b185_35 (p_g0 S) (p_g1 S), e3]
      simp only [Option.bind_some, Option.toList_some, Option.toList_none, List.cons_append, List.nil_append]
      rw [b185_48]
      split
      · rw [b185_55 (p_g0 S) (p_g1 S), e4]
        simp only [Option.bind_some, Option.toList_some, Option.toList_none, List.cons_append, List.nil_append]
        rw [b185_68]
        split
        · rw [b185_75, b185_77]; exact ⟨-4, Or.inl rfl, rfl⟩
        · rw [b185_71, b185_77]; exact ⟨3, by decide, rfl⟩
      · rw [b185_51, b185_77]; exact ⟨2, by decide, rfl⟩
    · rw [b185_33]; exact ⟨1, by decide, rfl⟩
  · rw [b185_16]; exact ⟨0, by decide, rfl⟩
/-- what a line leaves -/
def LG (h : zi_Hp) (t p : Nat) (o : Option zi_Rt) : Prop := ∃ w' T' F' b', o = some (none, zP h w' T' F' b') ∧ ∃ p' so' f', PA t w' T' F' p' so' f' ∧ (f' = 0 → ¬ so' = 0 → p < p')
theorem p_li (S : Sh h) (ht : t ≤ 160) (et : zh_i h 211 8 = nI t) {p so f : Nat} (P : PA t w T F p so f) {u1 : Value} : LG h t p (zv 5 191 0 [.ref 211, u1] [] (zP h w T F b)) := by
  obtain ⟨W, ⟨tm, I1⟩, ⟨fm, I2⟩, I3⟩ := id P
  -- the end of a line
  have fin : ∀ (x1 : Int32) {w2 T2 F2 : Nat → Int32} {b2 : Bool} {p2 so2 f2 : Nat}, PA t w2 T2 F2 p2 so2 f2 → (f2 = 0 → p < p2) → LG h t p (zv 5 191 146 [.ref 211, .int x1] [] (zP h w2 T2 F2 b2)) := fun x1 {w2 T2 F2 b2 p2 so2 f2} P2 hp => by
    obtain ⟨W2, ⟨tm2, J1⟩, ⟨fm2, J2⟩, J3⟩ := P2
    obtain ⟨w3, e3, hw3, p3, so3, f3, W3, hp3, hs3, hf3⟩ := p_rd S ht et (T := T2) (F := F2) (b := b2) W2 (u1 := .double 0)
    rw [b191_146 (p_g0 S) (p_g1 S), e3]
    simp only [Option.bind_some, Option.toList_some, Option.toList_none, List.cons_append, List.nil_append]
    rw [b191_150]
    have f20 : f3 = 0 → f2 = 0 := fun h9 => Decidable.by_contra (fun h8 => h8 (by have := (hf3 h8).2; omega))
    exact ⟨w3, T2, F2, b2, rfl, p3, so3, f3, ⟨W3, ⟨tm2, J1.same hw3⟩, ⟨fm2, J2.same hw3⟩, fun h9 => by rw [hw3 16 (by decide)]; exact J3 (f20 h9)⟩, fun h9 _ => by have := hp (f20 h9); omega⟩
  have fin2 : ∀ (x1 : Int32) {w2 T2 F2 : Nat → Int32} {b2 : Bool} {p2 so2 f2 : Nat}, PA t w2 T2 F2 p2 so2 f2 → (f2 = 0 → p < p2) → LG h t p (zv 5 191 121 [.ref 211, .int x1] [] (zP h w2 T2 F2 b2)) := fun x1 {w2 T2 F2 b2 p2 so2 f2} P2 hp => by
    obtain ⟨W2, ⟨tm2, J1⟩, ⟨fm2, J2⟩, J3⟩ := id P2
    rw [b191_121 (p_g0 S) (p_g1 S), zP_w (by decide) (by decide)]
    by_cases h2 : f2 = 0
    · have go : ∀ g : Int32, LG h t p (zv 5 191 142 [.ref 211, .int x1] [.int g, .ref 211] (zP h w2 T2 F2 b2)) := fun g => by
        obtain ⟨f3, W3, g1, -⟩ := rq2 w2 (g := g) W2 (c := 2) (by decide) (by decide)
        have hw3 : ∀ j, 14 < j → rqF w2 g (nI 2) j = w2 j := fun j hj => rq_hi (by omega) (by omega)
        rw [b191_142 (p_g0 S) (p_g1 S), p_rq S]
        simp only [Option.bind_some, Option.toList_some, Option.toList_none, List.cons_append, List.nil_append]
        exact fin x1 (p2 := p2) (so2 := so2) (f2 := f3) ⟨W3, ⟨tm2, J1.same hw3⟩, ⟨fm2, J2.same hw3⟩, fun h9 => by rw [rq_hi (by decide) (by decide)]; exact J3 (g1 h9).1⟩ (fun _ => hp h2)
      rw [if_pos (W2.f0.mpr h2), b191_128 (p_g0 S) (p_g1 S)]
      split
      · rw [b191_137]; exact go 1
      · rw [b191_141]; exact go 0
    · rw [if_neg (fun h9 => h2 (W2.f0.mp h9))]
      exact fin x1 P2 hp
  -- behind the name
  have body : ∀ (k : Int32), (k = -4 ∨ k = 0 ∨ k = 1 ∨ k = 2 ∨ k = 3) → ∀ {w2 : Nat → Int32} {b2 : Bool} {f2 : Nat}, WI t w2 p so f2 → (∀ j, 14 < j → w2 j = w j) → (f2 = 0 → f = 0 ∧ ¬ k = -4) → LG h t p (zv 5 191 72 [.ref 211, .int k] [.int (zi_bI b2), .ref 211] (zP h w2 T F b)) := fun k hk {w2 b2 f2} W2 hw2 h0 => by
    obtain ⟨w3, e3, hw3, p3, so3, f3, W3, hp3, hs3, hf3⟩ := p_rd S ht et (T := T) (F := F) (b := b2) W2 (u1 := .double 0)
    have f20 : f3 = 0 → f2 = 0 := fun h9 => Decidable.by_contra (fun h8 => h8 (by have := (hf3 h8).2; omega))
    have hw : ∀ j, 14 < j → w3 j = w j := fun j hj => (hw3 j hj).trans (hw2 j hj)
    have P3 : PA t w3 T F p3 so3 f3 := ⟨W3, ⟨tm, I1.same hw⟩, ⟨fm, I2.same hw⟩, fun h9 => by rw [hw 16 (by decide)]; exact I3 (h0 (f20 h9)).1⟩
    rw [b191_72 (p_g0 S) (p_g1 S) (bI_01 _) (p_g0 S) (p_g1 S), zP_wb, bI_dec, e3]
    simp only [Option.bind_some, Option.toList_some, Option.toList_none, List.cons_append, List.nil_append]
    rw [b191_79 (p_g0 S) (p_g1 S), zP_w (by decide) (by decide)]
    by_cases h3 : f3 = 0
    · have hk4 := (h0 (f20 h3)).2
      rw [if_neg (fun h9 => (W3.fp.mp h9) h3), b191_87]
      by_cases k0 : k = 0
      · obtain ⟨v, w4, e4, hv, hw4, p4, so4, f4, W4, hp4, hf4, -⟩ := p_rn S ht et (T := T) (F := F) (b := b2) (lo := 2) (hi := 4) (by decide) (by decide) W3 (u3 := .double 0)
        have e4' : zv 3 187 0 [.ref 211, .int 2, .int 4, .double 0] [] (zP h w3 T F b2) = some (some (.int (nI v)), zP h w4 T F b2) := e4
        have hw' : ∀ j, 14 < j → w4 j = w j := fun j hj => (hw4 j hj).trans (hw j hj)
        rw [if_pos k0, b191_91 (p_g0 S) (p_g1 S), e4']
        simp only [Option.bind_some, Option.toList_some, Option.toList_none, List.cons_append, List.nil_append]
        rw [b191_98 (p_g0 S) (p_g1 S), zP_ww _ (by decide) (by decide)]
        obtain ⟨a1, a2, a3, a4, a5, a6, a7, a8⟩ := id W4
        have un : ∀ j, j ≠ 16 → up w4 16 (nI v) j = w4 j := fun j hj => up_n _ _ hj
        refine fin2 k (p2 := p4) (so2 := so4) (f2 := f4) ⟨⟨by rw [un 9 (by decide)]; exact a1, a2, by rw [un 10 (by decide)]; exact a3, by rw [un 11 (by decide)]; exact a4, a5, by rw [un 12 (by decide)]; exact a6, by rw [un 13 (by decide)]; exact a7, a8⟩, ⟨tm, by rw [un 18 (by decide), hw' 18 (by decide)]; exact I1.1, I1.2⟩, ⟨fm, by rw [un 20 (by decide), hw' 20 (by decide)]; exact I2.1, I2.2⟩, fun h9 => ⟨v, (hf4 h9).2.2.1, (hf4 h9).2.2.2, up_s _ _ _⟩⟩ (fun h9 => ?_)
        have := hs3 (f20 h3) (by have := (hf4 h9).2.1; omega)
        omega
      · rw [if_neg k0, b191_104]
        by_cases k3 : k = 3
        · obtain ⟨w4, T4, F4, b4, e4, p4, so4, f4, P4, hp4, hf4⟩ := p_fd S ht et (b := b2) P3 (u1 := .double 0) (u2 := .double 0)
          rw [if_pos k3, b191_109 (p_g0 S) (p_g1 S), e4]
          simp only [Option.bind_some, Option.toList_some, Option.toList_none, List.cons_append, List.nil_append]
          rw [b191_113]
          refine fin2 k P4 (fun h9 => ?_)
          have := hs3 (f20 h3) (by have := (hf4 h9).2; omega)
          omega
        · obtain ⟨a, ha, rfl⟩ : ∃ a, a ≤ 2 ∧ k = nI a := by
            rcases hk with e | e | e | e | e
            · exact absurd e hk4
            · exact absurd e k0
            · exact ⟨1, by decide, e⟩
            · exact ⟨2, by decide, e⟩
            · exact absurd e k3
          obtain ⟨w4, T4, F4, b4, e4, p4, so4, f4, P4, hp4, hf4⟩ := p_ks S ht et (b := b2) ha P3
          rw [if_neg k3, b191_116 (p_g0 S) (p_g1 S), e4]
          simp only [Option.bind_some, Option.toList_some, Option.toList_none, List.cons_append, List.nil_append]
          refine fin2 _ P4 (fun h9 => ?_)
          have := hs3 (f20 h3) (by have := (hf4 h9).2; omega)
          omega
    · rw [if_pos (W3.fp.mpr h3), b191_86]
      exact ⟨w3, T, F, b2, rfl, p3, so3, f3, P3, fun h9 => absurd h9 h3⟩
  have st2 : ∀ (k : Int32), (k = -4 ∨ k = 0 ∨ k = 1 ∨ k = 2 ∨ k = 3) → ∀ {w2 : Nat → Int32} {f2 : Nat}, WI t w2 p so f2 → (∀ j, 14 < j → w2 j = w j) → (f2 = 0 → f = 0 ∧ ¬ k = -4) → LG h t p (zv 5 191 34 [.ref 211, .int k] [] (zP h w2 T F b)) := fun k hk {w2 f2} W2 hw2 h0 => by
    have st3 : ∀ {w3 : Nat → Int32} {f3 : Nat}, WI t w3 p so f3 → (∀ j, 14 < j → w3 j = w j) → (f3 = 0 → f = 0 ∧ ¬ k = -4) → LG h t p (zv 5 191 55 [.ref 211, .int k] [] (zP h w3 T F b)) := fun {w3 f3} W3 hw3 h3 => by
      rw [b191_55 (p_g0 S) (p_g1 S)]
      split
      · rw [b191_63]
        split
        · rw [b191_67]; exact body k hk (b2 := true) W3 hw3 h3
        · rw [b191_71]; exact body k hk (b2 := false) W3 hw3 h3
      · rw [b191_67]; exact body k hk (b2 := true) W3 hw3 h3
    have go : ∀ g : Int32, LG h t p (zv 5 191 51 [.ref 211, .int k] [.int g, .ref 211] (zP h w2 T F b)) := fun g => by
      obtain ⟨f3, W3, g1, -⟩ := rq2 w2 (g := g) W2 (c := 4) (by decide) (by decide)
      rw [b191_51 (p_g0 S) (p_g1 S), p_rq S]
      simp only [Option.bind_some, Option.toList_some, Option.toList_none, List.cons_append, List.nil_append]
      exact st3 W3 (fun j hj => by rw [rq_hi (by omega) (by omega)]; exact hw2 j hj) (fun h9 => h0 (g1 h9).1)
    rw [b191_34]
    split
    · rw [b191_39 (p_g0 S) (p_g1 S)]
      split
      · rw [b191_46]; exact go 1
      · rw [b191_50]; exact go 0
    · rw [b191_46]; exact go 1
  have st1 : ∀ (k : Int32), (k = -4 ∨ k = 0 ∨ k = 1 ∨ k = 2 ∨ k = 3) → LG h t p (zv 5 191 17 [.ref 211, u1] [.int k] (zP h w T F b)) := fun k hk => by
    have go : ∀ g : Int32, (¬ g = 0 → ¬ k = -4) → LG h t p (zv 5 191 30 [.ref 211, .int k] [.int g, .ref 211] (zP h w T F b)) := fun g hg => by
      obtain ⟨f3, W3, g1, -⟩ := rq2 w (g := g) W (c := 2) (by decide) (by decide)
      rw [b191_30 (p_g0 S) (p_g1 S), p_rq S]
      simp only [Option.bind_some, Option.toList_some, Option.toList_none, List.cons_append, List.nil_append]
      exact st2 k hk W3 (fun j hj => rq_hi (by omega) (by omega)) (fun h9 => ⟨(g1 h9).1, hg (g1 h9).2⟩)
    rw [b191_17]
    by_cases hk4 : k = -4
    · rw [if_pos hk4, b191_29]; exact go 0 (fun h9 => absurd rfl h9)
    · rw [if_neg hk4, b191_25]; exact go 1 (fun _ => hk4)
  rw [b191_0 (p_g0 S) (p_g1 S)]
  split
  · obtain ⟨k, hk, ek⟩ := p_ln S ht et W (T := T) (F := F) (b := b)
    rw [b191_8 (p_g0 S) (p_g1 S), ek]
    simp only [Option.bind_some, Option.toList_some, Option.toList_none, List.cons_append, List.nil_append]
    rw [b191_12]; exact st1 k hk
  · rw [b191_15]; exact st1 (-4) (Or.inl rfl)
end R24I
