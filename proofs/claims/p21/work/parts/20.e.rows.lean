/-! THE REFERENCE'S STEPS, a row a case -/
section R20E
variable {h : zi_Hp} {s : Nat → Int32}
theorem nH_congr {g g' gc gc' : Nat → Int32} {n k : Nat} (h1 : ∀ t, t < k → g t = g' t) (h2 : ∀ t, t < k → gc t = gc' t) : nH s n g gc k = nH s n g' gc' k := by
  have e : nP s n g gc k = nP s n g' gc' k := by
    funext j
    rw [nP, nP]
    by_cases a : 13 * n + 5 ≤ j ∧ j < 13 * n + 5 + k
    · rw [if_pos a, if_pos a, h1 _ (by omega)]
    · rw [if_neg a, if_neg a]
      by_cases b : 13 * n + 9 ≤ j ∧ j < 13 * n + 9 + k
      · rw [if_pos b, if_pos b, h2 _ (by omega)]
      · rw [if_neg b, if_neg b]
  rw [nH, nH, e]
theorem spF_congr {bk bk' bc bc' : Nat → Int32} {c n v t ls bm : Nat} (hl : 0 < ls ∧ ls ≤ bm) (h1 : ∀ t, t < bm → bk t = bk' t) (h2 : ∀ t, t < bm → bc t = bc' t) : spF s c n v t ls bm bk bc = spF s c n v t ls bm bk' bc' := by
  rw [spF, spF, h1 (ls - 1) (by omega)]
  rw [nH_congr (g := fun i => bk (ls + i)) (g' := fun i => bk' (ls + i)) (gc := fun i => bc (ls + i)) (gc' := fun i => bc' (ls + i)) (fun t ht => h1 _ (by omega)) (fun t ht => h2 _ (by omega))]
  rw [nH_congr (g := bk) (g' := bk') (gc := bc) (gc' := bc') (fun t ht => h1 _ (by omega)) (fun t ht => h2 _ (by omega))]
/-- a row with one less: without p -/
def rmF (s : Nat → Int32) (n w p i : Nat) : Int32 := if i < p then s (13 * n + (w + i)) else s (13 * n + (w + (i + 1)))
theorem q_tkL (S : Sh h) {c n m p : Nat} (hn : n < 24) (hm : m ≤ 4) (hp : p < m) (em : s (13 * n + 1) = nI m) {key : Int32} (hk : s (13 * n + (5 + p)) = key) (hne : ∀ i, i < m → i ≠ p → ¬ s (13 * n + (5 + i)) = key) {wo : Nat → Bool} : ∀ d i bk bc cnt, i + d = m → cnt = (if p < i then i - 1 else i) → (∀ t, t < cnt → bk t = rmF s n 5 p t ∧ bc t = -4) → ∃ bk' bc', zv 4 166 38 [.ref 211, .int (nI c), .int (nI n), .int key, .int (nI i)] [] (zQ h (bk, bc, nI cnt, wo) s) = zv 4 166 83 [.ref 211, .int (nI c), .int (nI n), .int key, .int (nI m)] [] (zQ h (bk', bc', nI (m - 1), wo) s) ∧ ∀ t, t < m - 1 → bk' t = rmF s n 5 p t ∧ bc' t = -4 := by
  have adds : ∀ {bk bc : Nat → Int32} {cnt : Nat} {k2 : Int32}, (∀ t, t < cnt → bk t = rmF s n 5 p t ∧ bc t = -4) → k2 = rmF s n 5 p cnt → ∀ t, t < cnt + 1 → up bk cnt k2 t = rmF s n 5 p t ∧ up bc cnt (-4) t = -4 := by
    intro bk bc cnt k2 h1 h2 t ht
    by_cases e : t = cnt
    · subst e
      rw [up_s, up_s]
      exact ⟨h2, rfl⟩
    · rw [up_n _ _ e, up_n _ _ e]
      exact h1 t (by omega)
  intro d
  induction d with
  | zero =>
    intro i bk bc cnt hi hc hr
    have e : i = m := by omega
    subst e
    rw [if_pos hp] at hc
    subst hc
    rw [b166_38 (q_g0 S) (q_g1 S), q_of1 S hn, em]
    simp only [Option.bind_some, Option.toList_some, List.cons_append, List.nil_append]
    rw [b166_46, if_neg (nI_nlt (Nat.le_refl _) (by omega))]
    exact ⟨bk, bc, rfl, hr⟩
  | succ d ih =>
    intro i bk bc cnt hi hc hr
    have e5 : (5 : Int32) + nI i = nI (5 + i) := nI_add 5 i
    rw [b166_38 (q_g0 S) (q_g1 S), q_of1 S hn, em]
    simp only [Option.bind_some, Option.toList_some, List.cons_append, List.nil_append]
    rw [b166_46, if_pos (nI_lt (by omega) (by omega)), b166_49 (q_g0 S) (q_g1 S), e5, q_of S hn (by omega)]
    simp only [Option.bind_some, Option.toList_some, List.cons_append, List.nil_append]
    rw [b166_58]
    by_cases hpi : i = p
    · subst hpi
      rw [if_neg (by omega)] at hc
      subst hc
      rw [if_pos hk, b166_77, nI_1]
      exact ih (cnt + 1) bk bc cnt (by omega) (by rw [if_pos (by omega)]; omega) hr
    · rw [if_neg (hne i (by omega) hpi), b166_62 (q_g0 S) (q_g1 S), e5, q_of S hn (by omega)]
      simp only [Option.bind_some, Option.toList_some, List.cons_append, List.nil_append]
      have hcb : cnt < 5 := by
        subst hc
        by_cases h9 : p < i
        · rw [if_pos h9]; omega
        · rw [if_neg h9]; omega
      rw [b166_72 (q_g0 S) (q_g1 S), q_ba S (m := cnt) hcb rfl]
      simp only [Option.bind_some, Option.toList_none, List.nil_append]
      rw [b166_77, nI_1]
      by_cases h9 : p < i
      · rw [if_pos h9] at hc
        refine ih (i + 1) _ _ (cnt + 1) (by omega) (by rw [if_pos (by omega)]; omega) (adds hr ?_)
        rw [rmF, if_neg (by omega), show cnt + 1 = i by omega]
      · rw [if_neg h9] at hc
        refine ih (i + 1) _ _ (cnt + 1) (by omega) (by rw [if_neg (by omega)]; omega) (adds hr ?_)
        rw [rmF, if_pos (by omega), show cnt = i by omega]
/-- bigOfEntries -/
theorem q_be (S : Sh h) {n m p : Nat} (hn : n < 24) (hm : m ≤ 4) (hp : p < m) (em : s (13 * n + 1) = nI m) {q : zQs} {u3 : Value} : ∃ bk bc, zv 2 169 0 [.ref 211, .int (nI n), .int (nI p), u3] [] (zQ h q s) = some (none, zQ h (bk, bc, nI (m - 1), q.2.2.2) s) ∧ ∀ t, t < m - 1 → bk t = rmF s n 5 p t ∧ bc t = rmF s n 9 p t := by
  have adds : ∀ {bk bc : Nat → Int32} {cnt : Nat} {k2 c2 : Int32}, (∀ t, t < cnt → bk t = rmF s n 5 p t ∧ bc t = rmF s n 9 p t) → k2 = rmF s n 5 p cnt → c2 = rmF s n 9 p cnt → ∀ t, t < cnt + 1 → up bk cnt k2 t = rmF s n 5 p t ∧ up bc cnt c2 t = rmF s n 9 p t := by
    intro bk bc cnt k2 c2 h1 h2 h3 t ht
    by_cases e : t = cnt
    · subst e
      rw [up_s, up_s]
      exact ⟨h2, h3⟩
    · rw [up_n _ _ e, up_n _ _ e]
      exact h1 t (by omega)
  have loop : ∀ d i bk bc cnt, i + d = m → cnt = (if p < i then i - 1 else i) → (∀ t, t < cnt → bk t = rmF s n 5 p t ∧ bc t = rmF s n 9 p t) → ∃ bk' bc', zv 2 169 7 [.ref 211, .int (nI n), .int (nI p), .int (nI i)] [] (zQ h (bk, bc, nI cnt, q.2.2.2) s) = some (none, zQ h (bk', bc', nI (m - 1), q.2.2.2) s) ∧ ∀ t, t < m - 1 → bk' t = rmF s n 5 p t ∧ bc' t = rmF s n 9 p t := by
    intro d
    induction d with
    | zero =>
      intro i bk bc cnt hi hc hr
      have e : i = m := by omega
      subst e
      rw [if_pos hp] at hc
      subst hc
      rw [b169_7 (q_g0 S) (q_g1 S), q_of1 S hn, em]
      simp only [Option.bind_some, Option.toList_some, List.cons_append, List.nil_append]
      rw [b169_14, if_neg (nI_nlt (Nat.le_refl _) (by omega)), b169_49]
      exact ⟨bk, bc, rfl, hr⟩
    | succ d ih =>
      intro i bk bc cnt hi hc hr
      have e5 : (5 : Int32) + nI i = nI (5 + i) := nI_add 5 i
      have e9 : (9 : Int32) + nI i = nI (9 + i) := nI_add 9 i
      rw [b169_7 (q_g0 S) (q_g1 S), q_of1 S hn, em]
      simp only [Option.bind_some, Option.toList_some, List.cons_append, List.nil_append]
      rw [b169_14, if_pos (nI_lt (by omega) (by omega)), b169_17]
      by_cases hpi : i = p
      · subst hpi
        rw [if_neg (by omega)] at hc
        subst hc
        rw [if_pos rfl, b169_43, nI_1]
        exact ih (cnt + 1) bk bc cnt (by omega) (by rw [if_pos (by omega)]; omega) hr
      · rw [if_neg (fun w => hpi ((nI_eq (by omega) (by omega)).mp w)), b169_22 (q_g0 S) (q_g1 S), e5, q_of S hn (by omega)]
        simp only [Option.bind_some, Option.toList_some, List.cons_append, List.nil_append]
        rw [b169_31 (q_g0 S) (q_g1 S), e9, q_of S hn (by omega)]
        simp only [Option.bind_some, Option.toList_some, List.cons_append, List.nil_append]
        have hcb : cnt < 5 := by
          subst hc
          by_cases h9 : p < i
          · rw [if_pos h9]; omega
          · rw [if_neg h9]; omega
        rw [b169_40 (q_g0 S) (q_g1 S), q_ba S (m := cnt) hcb rfl]
        simp only [Option.bind_some, Option.toList_none, List.nil_append]
        rw [b169_43, nI_1]
        by_cases h9 : p < i
        · rw [if_pos h9] at hc
          refine ih (i + 1) _ _ (cnt + 1) (by omega) (by rw [if_pos (by omega)]; omega) (adds hr ?_ ?_)
          · rw [rmF, if_neg (by omega), show cnt + 1 = i by omega]
          · rw [rmF, if_neg (by omega), show cnt + 1 = i by omega]
        · rw [if_neg h9] at hc
          refine ih (i + 1) _ _ (cnt + 1) (by omega) (by rw [if_neg (by omega)]; omega) (adds hr ?_ ?_)
          · rw [rmF, if_pos (by omega), show cnt = i by omega]
          · rw [rmF, if_pos (by omega), show cnt = i by omega]
  rw [b169_0 (q_g0 S) (q_g1 S), zQ_wm]
  exact loop m 0 q.1 q.2.1 0 (by omega) (by rw [if_neg (by omega)]) (fun t ht => absurd ht (Nat.not_lt_zero t))
/-- children with one more -/
def icF (s : Nat → Int32) (n p : Nat) (post : Int32) (i : Nat) : Int32 := if i ≤ p then s (13 * n + (9 + i)) else if i = p + 1 then post else s (13 * n + (9 + (i - 1)))
theorem q_isL (S : Sh h) {c n m p : Nat} (hc3 : c < 3) (hn : n < 24) (hm : m ≤ 4) (hp : p < m) (em : s (13 * n + 1) = nI m) {mid : Int32} {wo : Nat → Bool} : ∀ d i bk bc cnt, i + d = m → cnt = (if p < i then i + 1 else i) → (∀ t, t < cnt → bk t = blF s n p mid t ∧ bc t = icF s n p (s (315 + 24 * c + 9)) t) → ∃ bk' bc', zv 4 171 51 [.ref 211, .int (nI c), .int (nI n), .int mid, .int (nI p), .int (nI i)] [] (zQ h (bk, bc, nI cnt, wo) s) = zv 4 171 130 [.ref 211, .int (nI c), .int (nI n), .int mid, .int (nI p), .int (nI m)] [] (zQ h (bk', bc', nI (m + 1), wo) s) ∧ ∀ t, t < m + 1 → bk' t = blF s n p mid t ∧ bc' t = icF s n p (s (315 + 24 * c + 9)) t := by
  have adds : ∀ {bk bc : Nat → Int32} {cnt : Nat} {k2 c2 : Int32}, (∀ t, t < cnt → bk t = blF s n p mid t ∧ bc t = icF s n p (s (315 + 24 * c + 9)) t) → k2 = blF s n p mid cnt → c2 = icF s n p (s (315 + 24 * c + 9)) cnt → ∀ t, t < cnt + 1 → up bk cnt k2 t = blF s n p mid t ∧ up bc cnt c2 t = icF s n p (s (315 + 24 * c + 9)) t := by
    intro bk bc cnt k2 c2 h1 h2 h3 t ht
    by_cases e : t = cnt
    · subst e
      rw [up_s, up_s]
      exact ⟨h2, h3⟩
    · rw [up_n _ _ e, up_n _ _ e]
      exact h1 t (by omega)
  intro d
  induction d with
  | zero =>
    intro i bk bc cnt hi hc hr
    have e : i = m := by omega
    subst e
    rw [if_pos hp] at hc
    subst hc
    rw [b171_51 (q_g0 S) (q_g1 S), q_of1 S hn, em]
    simp only [Option.bind_some, Option.toList_some, List.cons_append, List.nil_append]
    rw [b171_59, if_neg (nI_nlt (Nat.le_refl _) (by omega))]
    exact ⟨bk, bc, rfl, hr⟩
  | succ d ih =>
    intro i bk bc cnt hi hc hr
    have e5 : (5 : Int32) + nI i = nI (5 + i) := nI_add 5 i
    have e9 : (9 : Int32) + nI i = nI (9 + i) := nI_add 9 i
    rw [b171_51 (q_g0 S) (q_g1 S), q_of1 S hn, em]
    simp only [Option.bind_some, Option.toList_some, List.cons_append, List.nil_append]
    rw [b171_59, if_pos (nI_lt (by omega) (by omega)), b171_62]
    by_cases hpi : i = p
    · subst hpi
      rw [if_neg (by omega)] at hc
      subst hc
      rw [if_pos rfl, b171_69 (q_g0 S) (q_g1 S), e9, q_of S hn (by omega)]
      simp only [Option.bind_some, Option.toList_some, List.cons_append, List.nil_append]
      rw [b171_81 (q_g0 S) (q_g1 S), q_ba S (m := cnt) (by omega) rfl]
      simp only [Option.bind_some, Option.toList_none, List.nil_append]
      rw [b171_84 (q_g0 S) (q_g1 S), e5, q_of S hn (by omega)]
      simp only [Option.bind_some, Option.toList_some, List.cons_append, List.nil_append]
      rw [b171_94, if_pos rfl, b171_101 (q_g0 S) (q_g1 S), q_oc9 S hc3]
      simp only [Option.bind_some, Option.toList_some, List.cons_append, List.nil_append]
      rw [b171_108, b171_121 (q_g0 S) (q_g1 S), q_ba S (m := cnt + 1) (by omega) rfl]
      simp only [Option.bind_some, Option.toList_none, List.nil_append]
      rw [b171_124, nI_1]
      have h1 := adds hr (k2 := mid) (c2 := s (13 * n + (9 + cnt))) (by rw [blF, if_neg (by omega), if_pos rfl]) (by rw [icF, if_pos (Nat.le_refl _)])
      refine ih (cnt + 1) _ _ (cnt + 2) (by omega) (by rw [if_pos (by omega)]) (adds h1 ?_ ?_)
      · rw [blF, if_neg (by omega), if_neg (by omega), Nat.add_sub_cancel]
      · rw [icF, if_neg (by omega), if_pos rfl]
    · have hne : ¬ nI i = nI p := fun w => hpi ((nI_eq (by omega) (by omega)).mp w)
      have hcb : cnt < 5 := by
        subst hc
        by_cases h9 : p < i
        · rw [if_pos h9]; omega
        · rw [if_neg h9]; omega
      rw [if_neg hne, b171_84 (q_g0 S) (q_g1 S), e5, q_of S hn (by omega)]
      simp only [Option.bind_some, Option.toList_some, List.cons_append, List.nil_append]
      rw [b171_94, if_neg hne, b171_111 (q_g0 S) (q_g1 S), e9, q_of S hn (by omega)]
      simp only [Option.bind_some, Option.toList_some, List.cons_append, List.nil_append]
      rw [b171_121 (q_g0 S) (q_g1 S), q_ba S (m := cnt) hcb rfl]
      simp only [Option.bind_some, Option.toList_none, List.nil_append]
      rw [b171_124, nI_1]
      by_cases h9 : p < i
      · rw [if_pos h9] at hc
        subst hc
        refine ih (i + 1) _ _ (i + 1 + 1) (by omega) (by rw [if_pos (by omega)]) (adds hr ?_ ?_)
        · rw [blF, if_neg (by omega), if_neg (by omega), Nat.add_sub_cancel]
        · rw [icF, if_neg (by omega), if_neg (by omega), Nat.add_sub_cancel]
      · rw [if_neg h9] at hc
        subst hc
        refine ih (cnt + 1) _ _ (cnt + 1) (by omega) (by rw [if_neg (by omega)]) (adds hr ?_ ?_)
        · rw [blF, if_pos (by omega)]
        · rw [icF, if_pos (by omega)]
end R20E
