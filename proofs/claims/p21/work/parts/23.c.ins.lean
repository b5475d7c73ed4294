/-! THE REFERENCE's 'in', and a turn's loop -/
theorem i64_le (n x : Int32) : (x.toInt64 ≤ n.toInt64) = (x ≤ n) := by
  simp [Int64.le_iff_toInt_le, Int32.le_iff_toInt_le]
section INS
variable {h : zi_Hp}
theorem c_in {y0 y2 y4 : Int64} : zv 1 142 0 [.long y0, .double 1, .long y2, .double 1, .long y4, .double 1] [] h = some (some (.int (if y2 ≤ y0 ∧ y0 ≤ y4 then 1 else 0)), h) := by
  rw [b142_0]
  by_cases h1 : y2 ≤ y0
  · rw [if_neg (fun q => absurd ((lg_cmp_lt _ _).mp q) (Int64.not_lt.mpr h1)), b142_6]
    by_cases h2 : y0 ≤ y4
    · rw [if_neg (fun q => absurd ((lg_cmp_gt _ _).mp q) (Int64.not_lt.mpr h2)), b142_13, b142_18 (Or.inr rfl), if_pos ⟨h1, h2⟩]
    · rw [if_pos ((lg_cmp_gt _ _).mpr (Int64.not_le.mp h2)), b142_17, b142_18 (Or.inl rfl), if_neg (fun q => h2 q.2)]
  · rw [if_pos ((lg_cmp_lt _ _).mpr (Int64.not_le.mp h1)), b142_17, b142_18 (Or.inl rfl), if_neg (fun q => h1 q.1)]
theorem c_inI {x a b : Int32} : zv 1 142 0 [.long x.toInt64, .double 1, .long a.toInt64, .double 1, .long b.toInt64, .double 1] [] h = some (some (.int (if a ≤ x ∧ x ≤ b then 1 else 0)), h) := by
  simp only [c_in, i64_le]
/-- a number of a range -/
theorem in_or (x : Int32) (a b : Nat) (hb : b < 1000) (hab : a ≤ b) : (∃ c, a ≤ c ∧ c ≤ b ∧ x = nI c ∧ (nI a ≤ x ∧ x ≤ nI b)) ∨ ¬ (nI a ≤ x ∧ x ≤ nI b) := by
  by_cases h : nI a ≤ x ∧ x ≤ nI b
  · refine Or.inl ⟨x.toInt.toNat, ?_, ?_, ?_, h⟩
    all_goals
      obtain ⟨h1, h2⟩ := h
      have ea : (nI a).toInt = a := nI_toInt (by omega)
      have eb : (nI b).toInt = b := nI_toInt (by omega)
      rw [Int32.le_iff_toInt_le, ea] at h1
      rw [Int32.le_iff_toInt_le, eb] at h2
    · omega
    · omega
    · apply Int32.toInt_inj.mp
      rw [nI_toInt (by omega)]
      omega
  · exact Or.inr h
theorem c_iy {x : Int32} {a b : Nat} (hx : nI a ≤ x ∧ x ≤ nI b) : zv 1 142 0 [.long x.toInt64, .double 1, .long (nI a).toInt64, .double 1, .long (nI b).toInt64, .double 1] [] h = some (some (.int 1), h) := by rw [c_inI, if_pos hx]
theorem c_iz {x : Int32} {a b : Nat} (hx : ¬ (nI a ≤ x ∧ x ≤ nI b)) : zv 1 142 0 [.long x.toInt64, .double 1, .long (nI a).toInt64, .double 1, .long (nI b).toInt64, .double 1] [] h = some (some (.int 0), h) := by rw [c_inI, if_neg hx]
end INS
/-- so many turns of a loop -/
def itF {α : Type} (g : Nat → α → α) : Nat → Nat → α → α
  | 0, _, a => a
  | d + 1, n, a => itF g d (n + 1) (g n a)
theorem lpF {α β : Type} {F : α → Int32 → β} {E : α → β} {g : Nat → α → α} {N : Nat} (h1 : ∀ n a, n < N → F a (nI n) = F (g n a) (nI (n + 1))) (h2 : ∀ a, F a (nI N) = E a) : ∀ d n a, n + d = N → F a (nI n) = E (itF g d n a)
  | 0, n, a, hn => by
    have e : n = N := by omega
    subst e
    exact h2 a
  | d + 1, n, a, hn => by
    rw [h1 n a (by omega), lpF h1 h2 d (n + 1) (g n a) (by omega)]
    rfl
