/-! CLASS AND REFERENCE: a World and a row -/
/-- the nodes are the same -/
def CN (x : Nat → Nat → Int32) (y : Nat → Nat → Bool) (s : Nat → Int32) (N : Nat) (m : Nat → Nat) : Prop :=
  (x 1 0 = s 312 ∧ x 1 1 = s 313 ∧ x 1 2 = s 314) ∧ ∀ n, n < N → (x 2 n = s (13 * n) ∧ x 3 n = s (13 * n + 1) ∧ x 4 n = s (13 * n + 2) ∧ x 5 n = s (13 * n + 3) ∧ y 6 n = decide (s (13 * n + 4) = 1)) ∧ ∀ i, i < m n → x 7 (5 * n + i) = s (13 * n + (5 + i)) ∧ (0 < s (13 * n) → x 8 (5 * n + i) = s (13 * n + (9 + i)))
/-- a client is the same, as far as it matters -/
def KR (x : Nat → Nat → Int32) (y : Nat → Nat → Bool) (s : Nat → Int32) (c : Nat) : Prop :=
  x (10 + 2 * c) 0 = s (315 + 24 * c) ∧ (¬ s (315 + 24 * c) = 0 → ∀ w, 1 ≤ w → w ≤ 7 → x (10 + 2 * c) w = s (315 + 24 * c + w)) ∧
  (s (315 + 24 * c) = 3 ∨ s (315 + 24 * c) = 4 → x (10 + 2 * c) 8 = s (315 + 24 * c + 8) ∧ x (10 + 2 * c) 9 = s (315 + 24 * c + 10) ∧ x (10 + 2 * c) 10 = s (315 + 24 * c + 9) ∧ y (10 + 2 * c) 11 = decide (s (315 + 24 * c + 11) = 1)) ∧
  (¬ s (315 + 24 * c) = 0 → ¬ s (315 + 24 * c) = 5 → ∀ l, l < 12 → x (11 + 2 * c) l = s (315 + 24 * c + (12 + l)))
/-- who is under way has seen what is there now -/
def SB (s : Nat → Int32) : Prop := ∀ c, c < 3 → onB s c = true → s (315 + 24 * c + 5) ||| (1 <<< (zi_bI (thA s (s (315 + 24 * c + 2))) &&& 31)) = s (315 + 24 * c + 5)
def CR (x : Nat → Nat → Int32) (y : Nat → Nat → Bool) (s : Nat → Int32) (N : Nat) (m : Nat → Nat) : Prop := CN x y s N m ∧ (∀ c, c < 3 → KR x y s c) ∧ SB s
section R31A
variable {x : Nat → Nat → Int32} {y : Nat → Nat → Bool} {s : Nat → Int32} {N R M B c n : Nat} {L m H r : Nat → Nat} {K C : Nat → Nat → Nat} {f : Nat → Nat}
theorem KR.hold (k : KR x y s c) (v : Int32) : ((x (10 + 2 * c) 0 = 2 ∨ x (10 + 2 * c) 0 = 4) ∧ x (10 + 2 * c) 3 = v) ↔ ((s (315 + 24 * c) = 2 ∨ s (315 + 24 * c) = 4) ∧ s (315 + 24 * c + 3) = v) := by
  obtain ⟨k0, k1, -, -⟩ := k
  rw [k0]
  constructor
  · rintro ⟨h1, h2⟩
    have h0 : ¬ s (315 + 24 * c) = 0 := fun w => by rw [w] at h1; rcases h1 with q | q <;> exact absurd q (by decide)
    exact ⟨h1, by rw [← k1 h0 3 (by decide) (by decide)]; exact h2⟩
  · rintro ⟨h1, h2⟩
    have h0 : ¬ s (315 + 24 * c) = 0 := fun w => by rw [w] at h1; rcases h1 with q | q <;> exact absurd q (by decide)
    exact ⟨h1, by rw [k1 h0 3 (by decide) (by decide)]; exact h2⟩
theorem CR.ho (R : CR x y s N m) (v : Int32) : hoK x v = lkB s v := by
  have k0 := (R.2.1 0 (by decide)).hold v
  have k1 := (R.2.1 1 (by decide)).hold v
  have k2 := (R.2.1 2 (by decide)).hold v
  unfold hoK lkB
  by_cases e0 : lkO s 0 v
  · rw [if_pos (k0.mpr e0), if_pos e0]
  · rw [if_neg (fun q => e0 (k0.mp q)), if_neg e0]
    by_cases e1 : lkO s 1 v
    · rw [if_pos (k1.mpr e1), if_pos e1]
    · rw [if_neg (fun q => e1 (k1.mp q)), if_neg e1]
      by_cases e2 : lkO s 2 v
      · rw [if_pos (k2.mpr e2), if_pos e2]
      · rw [if_neg (fun q => e2 (k2.mp q)), if_neg e2]
theorem lk_neg (s : Nat → Int32) (v : Int32) : lkB s v < 0 ↔ lkB s v = -4 := by
  unfold lkB
  split
  · decide
  · split
    · decide
    · split <;> decide
/-- both sides may step alike -/
theorem CR.mv (T : CR x y s N m) (I : InvG s N R M B L m H r K C f) (hc : c < 3) (ea : (¬ s (315 + 24 * c) = 0 ∧ ¬ s (315 + 24 * c) = 5) → s (315 + 24 * c + 3) = nI n ∧ n < N) : mvK x y c n = msF s c := by
  obtain ⟨k0, k1, k2, -⟩ := T.2.1 c hc
  obtain ⟨⟨a1, a2, a3⟩, ⟨b1, b2⟩, -, G, -⟩ := I.1
  unfold mvK msF
  rw [k0]
  by_cases hu : ¬ s (315 + 24 * c) = 0 ∧ ¬ s (315 + 24 * c) = 5
  · obtain ⟨e3, hn⟩ := ea hu
    have ho : onB s c = true := by unfold onB; exact decide_eq_true hu
    rw [decide_eq_true hu, ho, e3, b1, nI_clamp (by omega), nI_clamp (by omega), T.ho]
    obtain ⟨⟨t2, t3, t4, t5, t6⟩, -⟩ := T.1.2 n hn
    have gl := (G n hn).1.1
    have gd := (G n hn).2.2.1
    have w1 := k1 hu.1 1 (by decide) (by decide)
    have w2 := k1 hu.1 2 (by decide) (by decide)
    have key : (wlK x y c n && decide (¬ lkB s (nI n) < 0)) = sbF s c n R := by
      unfold wlK sbF
      rw [k0]
      by_cases h1 : s (315 + 24 * c) = 1
      · rw [if_pos h1, if_pos h1, w1, w2, t2, t4, t6, ← Bool.decide_and, decide_eq_decide, decide_eq_false_iff_not, lk_neg]
        constructor
        · rintro ⟨⟨p1, ⟨p2, p3⟩, p4⟩, p5⟩
          exact ⟨gd.elim id (fun q => absurd q.1 p3), p4, p2, p1, p5⟩
        · rintro ⟨p1, p2, p3, p4, p5⟩
          exact ⟨⟨p4, ⟨p3, fun q => by rw [p1] at q; exact absurd q (by decide)⟩, p2⟩, p5⟩
      · rw [if_neg h1, if_neg h1, ← Bool.decide_and, decide_eq_decide, lk_neg]
        by_cases h3 : s (315 + 24 * c) = 3
        · obtain ⟨w8, w9, -, -⟩ := k2 (Or.inl h3)
          rw [w8, w9, t2, t4]
          constructor
          · rintro ⟨⟨p1, p2, p3⟩, p5⟩
            refine ⟨p1, ?_, p2, p3, p5⟩
            rw [← p2, gl, (G R b2).1.1]
            have hLR := (G n hn).2.2.2.2.2.2.1
            have := I.lv b2
            exact nI_nlt hLR (by omega)
          · rintro ⟨p1, p2, p3, p4, p5⟩
            exact ⟨⟨p1, p3, p4⟩, p5⟩
        · constructor
          · rintro ⟨⟨p1, -⟩, -⟩; exact absurd p1 h3
          · rintro ⟨p1, -⟩; exact absurd p1 h3
    rw [key]
  · have ho : onB s c = false := by unfold onB; exact decide_eq_false hu
    rw [decide_eq_false hu, ho]; rfl
end R31A
