/-! CLASS AND REFERENCE: which keys are there -/
section R31B
variable {x : Nat → Nat → Int32} {y : Nat → Nat → Bool} {s s' : Nat → Int32} {N R M B c n : Nat} {L m H r : Nat → Nat} {K C : Nat → Nat → Nat} {f : Nat → Nat}
theorem thF_iff {key : Int32} : ∀ {k : Nat}, thF s key k = true ↔ ∃ n, n < k ∧ s (13 * n) = 0 ∧ s (13 * n + 4) = 0 ∧ ∃ i, i < (s (13 * n + 1)).toNatClampNeg ∧ s (13 * n + (5 + i)) = key
  | 0 => by simp [thF]
  | k + 1 => by
    rw [thF, Bool.or_eq_true, thF_iff, Bool.and_eq_true, Bool.and_eq_true, decide_eq_true_eq, decide_eq_true_eq, hkF_iff]
    constructor
    · rintro (⟨n, h1, h2⟩ | ⟨h1, h2, h3⟩)
      · exact ⟨n, by omega, h2⟩
      · exact ⟨k, by omega, h1, h2, h3⟩
    · rintro ⟨n, h1, h2⟩
      by_cases e : n = k
      · subst e; exact Or.inr h2
      · exact Or.inl ⟨n, by omega, h2⟩
theorem thA_iff (I : InvG s N R M B L m H r K C f) {key : Int32} : thA s key = true ↔ ∃ n, n < N ∧ s (13 * n) = 0 ∧ s (13 * n + 4) = 0 ∧ ∃ i, i < m n ∧ s (13 * n + (5 + i)) = key := by
  obtain ⟨⟨a1, a2, a3⟩, -, ⟨d1, d2, d3⟩, G, -⟩ := I.1
  unfold thA
  rw [a1, nI_clamp (by omega), thF_iff]
  constructor
  · rintro ⟨n, h1, h2, h3, i, h4, h5⟩
    have g2 := (G n h1).1.2.1
    have g10 := (G n h1).2.2.2.2.2.2.2.1
    rw [g2, nI_clamp (by omega)] at h4
    exact ⟨n, h1, h2, h3, i, h4, h5⟩
  · rintro ⟨n, h1, h2, h3, i, h4, h5⟩
    have g2 := (G n h1).1.2.1
    have g10 := (G n h1).2.2.2.2.2.2.2.1
    exact ⟨n, h1, h2, h3, i, by rw [g2, nI_clamp (by omega)]; exact h4, h5⟩
/-- the program looks alike -/
theorem CN.th (T : CN x y s N m) (I : InvG s N R M B L m H r K C f) {key : Int32} {b : Bool} (hb : b = true ↔ ∃ n, n < N ∧ ¬ 0 < x 2 n ∧ y 6 n = false ∧ ∃ i, i < m n ∧ x 7 (5 * n + i) = key) : b = thA s key := by
  have G := I.1.2.2.2.1
  rw [Bool.eq_iff_iff, hb, thA_iff I]
  constructor
  · rintro ⟨n, h1, h2, h3, i, h4, h5⟩
    obtain ⟨⟨t2, t3, t4, t5, t6⟩, tk⟩ := T.2 n h1
    have ln := I.lv h1
    refine ⟨n, h1, ?_, ?_, i, h4, by rw [← (tk i h4).1]; exact h5⟩
    · rw [t2, (G n h1).1.1] at h2
      have : L n = 0 := Nat.eq_zero_of_not_pos (fun w => h2 (nI_lt (a := 0) w (by omega)))
      rw [(G n h1).1.1, this]; rfl
    · rw [t6, decide_eq_false_iff_not] at h3
      exact (G n h1).2.2.1.elim id (fun q => absurd q.1 h3)
  · rintro ⟨n, h1, h2, h3, i, h4, h5⟩
    obtain ⟨⟨t2, t3, t4, t5, t6⟩, tk⟩ := T.2 n h1
    exact ⟨n, h1, by rw [t2, h2]; decide, by rw [t6, h3]; decide, i, h4, by rw [(tk i h4).1]; exact h5⟩
/-- cells of the clients alone have changed -/
theorem CN.cl {x' : Nat → Nat → Int32} {y' : Nat → Nat → Bool} (T : CN x y s N m) (hN : N ≤ 24) (hm : ∀ n, n < N → m n ≤ 4) (ex : ∀ o j, o < 9 → x' o j = x o j) (ey : ∀ j, y' 6 j = y 6 j) (es : ∀ k, k < 315 → s' k = s k) : CN x' y' s' N m := by
  obtain ⟨⟨t0, t1, t2⟩, tn⟩ := T
  refine ⟨⟨by rw [ex _ _ (by decide), es _ (by decide)]; exact t0, by rw [ex _ _ (by decide), es _ (by decide)]; exact t1, by rw [ex _ _ (by decide), es _ (by decide)]; exact t2⟩, fun n hn => ?_⟩
  obtain ⟨⟨u2, u3, u4, u5, u6⟩, uk⟩ := tn n hn
  have h4 := hm n hn
  refine ⟨⟨by rw [ex _ _ (by decide), es _ (by omega)]; exact u2, by rw [ex _ _ (by decide), es _ (by omega)]; exact u3, by rw [ex _ _ (by decide), es _ (by omega)]; exact u4, by rw [ex _ _ (by decide), es _ (by omega)]; exact u5, by rw [ey, es _ (by omega)]; exact u6⟩, fun i hi => ?_⟩
  rw [ex _ _ (by decide), ex _ _ (by decide), es _ (by omega), es _ (by omega), es _ (by omega)]
  exact uk i hi
/-- which keys are there hangs on the nodes alone -/
theorem thA_cl (I : InvG s N R M B L m H r K C f) (es : ∀ k, k < 315 → s' k = s k) (key : Int32) : thA s' key = thA s key := by
  obtain ⟨⟨a1, a2, a3⟩, -, ⟨d1, d2, d3⟩, G, -⟩ := I.1
  unfold thA
  rw [es 312 (by decide), a1, nI_clamp (by omega), Bool.eq_iff_iff, thF_iff, thF_iff]
  constructor
  · rintro ⟨n, h1, h2, h3, i, h4, h5⟩
    have g10 := (G n h1).2.2.2.2.2.2.2.1
    rw [es _ (by omega)] at h2 h3 h4
    rw [(G n h1).1.2.1, nI_clamp (by omega)] at h4
    rw [es _ (by omega)] at h5
    exact ⟨n, h1, h2, h3, i, by rw [(G n h1).1.2.1, nI_clamp (by omega)]; exact h4, h5⟩
  · rintro ⟨n, h1, h2, h3, i, h4, h5⟩
    have g10 := (G n h1).2.2.2.2.2.2.2.1
    have h4' := h4
    rw [(G n h1).1.2.1, nI_clamp (by omega)] at h4'
    exact ⟨n, h1, by rw [es _ (by omega)]; exact h2, by rw [es _ (by omega)]; exact h3, i, by rw [es _ (by omega)]; exact h4, by rw [es _ (by omega)]; exact h5⟩
end R31B
