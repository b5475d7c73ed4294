/-! A PURE LEXER, and what the class reads -/
/-- so many places from p on whose bytes are such -/
def lR (B : Nat → Int32) (t : Nat) (g : Int32 → Bool) : Nat → Nat → Nat
  | 0, p => p
  | d + 1, p => if p < t ∧ g (B p) = true then lR B t g d (p + 1) else p
def isL (c : Int32) : Bool := decide (¬ c < 97 ∧ ¬ 122 < c)
def isF (c : Int32) : Bool := decide (¬ c < 48 ∧ ¬ 57 < c)
def isB (c : Int32) : Bool := decide (c = 32)
/-- where a token begins, behind p -/
def lS (B : Nat → Int32) (t p : Nat) : Nat := lR B t isB (t - p) p
/-- its kind: 0 wrong, 1 the end, 2 a name, 3 a number, 4 a stop -/
def lK (B : Nat → Int32) (t p : Nat) : Nat := if t ≤ lS B t p then 1 else if isL (B (lS B t p)) = true then 2 else if isF (B (lS B t p)) = true then (if lR B t isF (t - lS B t p) (lS B t p) - lS B t p ≤ 2 then 3 else 0) else if B (lS B t p) = 59 then 4 else 0
/-- where the next one may begin -/
def lX (B : Nat → Int32) (t p : Nat) : Nat := if t ≤ lS B t p then lS B t p else if isL (B (lS B t p)) = true then lR B t isL (t - lS B t p) (lS B t p) else if isF (B (lS B t p)) = true then lR B t isF (t - lS B t p) (lS B t p) else lS B t p + 1
/-- the value of the figures from st on, so many -/
def lVv (B : Nat → Int32) (st : Nat) : Nat → Int32
  | 0 => 0
  | d + 1 => lVv B st d * 10 + B (st + d) - 48
/-- the class's tape has read the token behind n -/
def TA (B : Nat → Int32) (a : Nat → Int32) (t n : Nat) : Prop := TJ a t (lX B t n) ∧ a 2 = nI (lK B t n) ∧ a 3 = nI (lS B t n) ∧ (lK B t n = 3 → a 4 = lVv B (lS B t n) (lX B t n - lS B t n))
section R34J
variable {B : Nat → Int32} {t n : Nat} {g : Int32 → Bool}
theorem lR_ge : ∀ d p, p ≤ lR B t g d p
  | 0, p => Nat.le_refl _
  | d + 1, p => by
    unfold lR
    split
    · exact Nat.le_trans (Nat.le_succ p) (lR_ge d (p + 1))
    · exact Nat.le_refl _
theorem lR_le : ∀ d p, p ≤ t → lR B t g d p ≤ t
  | 0, p, h => h
  | d + 1, p, h => by
    unfold lR
    split
    · rename_i q; exact lR_le d (p + 1) q.1
    · exact h
theorem lR_in : ∀ d p k, p ≤ k → k < lR B t g d p → k < t ∧ g (B k) = true
  | 0, p, k, h1, h2 => absurd h2 (by unfold lR; omega)
  | d + 1, p, k, h1, h2 => by
    unfold lR at h2
    by_cases q : p < t ∧ g (B p) = true
    · rw [if_pos q] at h2
      by_cases e : k = p
      · rw [e]; exact q
      · exact lR_in d (p + 1) k (by omega) h2
    · rw [if_neg q] at h2; omega
theorem lR_out : ∀ d p, t ≤ p + d → ¬ (lR B t g d p < t ∧ g (B (lR B t g d p)) = true)
  | 0, p, h => fun q => by unfold lR at q; omega
  | d + 1, p, h => by
    unfold lR
    by_cases q : p < t ∧ g (B p) = true
    · rw [if_pos q]; exact lR_out d (p + 1) (by omega)
    · rw [if_neg q]; exact q
theorem lR_gt {d p : Nat} (h : p < t) (hg : g (B p) = true) : p < lR B t g (d + 1) p := by
  unfold lR
  rw [if_pos ⟨h, hg⟩]
  exact lR_ge d (p + 1)
theorem lS_ge : n ≤ lS B t n := lR_ge _ _
theorem lS_le (h : n ≤ t) : lS B t n ≤ t := lR_le _ _ h
theorem lX_ge : lS B t n ≤ lX B t n := by
  unfold lX
  split
  · exact Nat.le_refl _
  · split
    · exact lR_ge _ _
    · split
      · exact lR_ge _ _
      · exact Nat.le_succ _
theorem lX_le (h : n ≤ t) : lX B t n ≤ t := by
  have := lS_le (B := B) h
  unfold lX
  split
  · omega
  · split
    · exact lR_le _ _ this
    · split
      · exact lR_le _ _ this
      · omega
theorem lK_end (h : t ≤ lS B t n) : lK B t n = 1 ∧ lX B t n = lS B t n := by
  refine ⟨?_, ?_⟩
  · unfold lK; rw [if_pos h]
  · unfold lX; rw [if_pos h]
theorem lK_name (h : lS B t n < t) (h1 : isL (B (lS B t n)) = true) : lK B t n = 2 ∧ lX B t n = lR B t isL (t - lS B t n) (lS B t n) := by
  refine ⟨?_, ?_⟩
  · unfold lK; rw [if_neg (by omega), if_pos h1]
  · unfold lX; rw [if_neg (by omega), if_pos h1]
theorem lK_num (h : lS B t n < t) (h1 : isL (B (lS B t n)) = false) (h2 : isF (B (lS B t n)) = true) : lK B t n = (if lX B t n - lS B t n ≤ 2 then 3 else 0) ∧ lX B t n = lR B t isF (t - lS B t n) (lS B t n) := by
  have e : lX B t n = lR B t isF (t - lS B t n) (lS B t n) := by
    unfold lX
    rw [if_neg (by omega), if_neg (by rw [h1]; decide), if_pos h2]
  refine ⟨?_, e⟩
  rw [e]
  unfold lK
  rw [if_neg (by omega), if_neg (by rw [h1]; decide), if_pos h2]
theorem lK_oth (h : lS B t n < t) (h1 : isL (B (lS B t n)) = false) (h2 : isF (B (lS B t n)) = false) : lK B t n = (if B (lS B t n) = 59 then 4 else 0) ∧ lX B t n = lS B t n + 1 := by
  refine ⟨?_, ?_⟩
  · unfold lK; rw [if_neg (by omega), if_neg (by rw [h1]; decide), if_neg (by rw [h2]; decide)]
  · unfold lX; rw [if_neg (by omega), if_neg (by rw [h1]; decide), if_neg (by rw [h2]; decide)]
theorem lK_le : lK B t n ≤ 4 := by
  unfold lK
  repeat' split
  all_goals omega
/-- a token that is not the end has bytes -/
theorem lX_gt (hK : ¬ lK B t n = 1) : lS B t n < lX B t n ∧ lS B t n < t := by
  by_cases h : t ≤ lS B t n
  · exact absurd (lK_end h).1 hK
  · have h' : lS B t n < t := by omega
    refine ⟨?_, h'⟩
    cases h1 : isL (B (lS B t n)) with
    | true =>
      rw [(lK_name h' h1).2, show t - lS B t n = (t - lS B t n - 1) + 1 by omega]
      exact lR_gt h' h1
    | false =>
      cases h2 : isF (B (lS B t n)) with
      | true =>
        rw [(lK_num h' h1 h2).2, show t - lS B t n = (t - lS B t n - 1) + 1 by omega]
        exact lR_gt h' h2
      | false => rw [(lK_oth h' h1 h2).2]; omega
/-- a number's figures -/
theorem lK_3 (hK : lK B t n = 3) : lS B t n < t ∧ 1 ≤ lX B t n - lS B t n ∧ lX B t n - lS B t n ≤ 2 ∧ ∀ k, lS B t n ≤ k → k < lX B t n → isF (B k) = true := by
  obtain ⟨g1, g2⟩ := lX_gt (B := B) (t := t) (n := n) (by omega)
  cases h1 : isL (B (lS B t n)) with
  | true => rw [(lK_name g2 h1).1] at hK; omega
  | false =>
    cases h2 : isF (B (lS B t n)) with
    | true =>
      obtain ⟨e1, e2⟩ := lK_num g2 h1 h2
      rw [e1] at hK
      by_cases q : lX B t n - lS B t n ≤ 2
      · refine ⟨g2, by omega, q, fun k k1 k2 => ?_⟩
        rw [e2] at k2
        exact (lR_in _ _ k k1 k2).2
      · rw [if_neg q] at hK; omega
    | false =>
      rw [(lK_oth g2 h1 h2).1] at hK
      split at hK <;> omega
theorem isF_v {c : Int32} (h : isF c = true) : ∃ q, q ≤ 9 ∧ c = nI (48 + q) := by
  unfold isF at h
  rw [decide_eq_true_eq] at h
  obtain ⟨h1, h2⟩ := h
  obtain ⟨q, hq, rfl⟩ := nI_ex' (x := c) (b := 57) (by decide) (fun w => h1 (Int32.lt_trans w (by decide))) h2
  rw [show (48 : Int32) = nI 48 from rfl, nI_lt' (by omega) (by omega)] at h1
  exact ⟨q - 48, by omega, by rw [show 48 + (q - 48) = q by omega]⟩
theorem nI_s48 {a q : Nat} : nI (10 * a) + nI (48 + q) - 48 = nI (10 * a + q) := by
  rw [nI_add, show (48 : Int32) = nI 48 from rfl, nI_sub (by omega), show 10 * a + (48 + q) - 48 = 10 * a + q by omega]
theorem lV_1 {st q v : Nat} {d : Nat} (e : lVv B st d = nI v) (eq : B (st + d) = nI (48 + q)) : lVv B st (d + 1) = nI (10 * v + q) := by
  show lVv B st d * 10 + B (st + d) - 48 = _
  have e10 : nI v * (10 : Int32) = nI (10 * v) := by
    have := nI_n10 (c := v) (i := 0)
    rw [show nI 0 = (0 : Int32) from rfl, Int32.add_zero] at this
    exact this
  rw [e, eq, e10, nI_s48]
/-- a number's value -/
theorem lV_v (hK : lK B t n = 3) : ∃ v, v ≤ 99 ∧ lVv B (lS B t n) (lX B t n - lS B t n) = nI v := by
  obtain ⟨h1, h2, h3, h4⟩ := lK_3 hK
  obtain ⟨q0, hq0, e0⟩ := isF_v (h4 (lS B t n) (Nat.le_refl _) (by omega))
  have v1 : lVv B (lS B t n) 1 = nI (10 * 0 + q0) := lV_1 (v := 0) (d := 0) rfl e0
  by_cases e : lX B t n - lS B t n = 1
  · exact ⟨10 * 0 + q0, by omega, by rw [e, v1]⟩
  · have e2 : lX B t n - lS B t n = 2 := by omega
    obtain ⟨q1, hq1, e1⟩ := isF_v (h4 (lS B t n + 1) (by omega) (by omega))
    exact ⟨10 * (10 * 0 + q0) + q1, by omega, by rw [e2]; exact lV_1 v1 e1⟩
end R34J
