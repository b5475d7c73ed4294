/-! THE REFERENCE'S BIG ROWS -/
section R20D
variable {h : zi_Hp} {s : Nat → Int32}
/-- a row with one more in it: at p -/
def blF (s : Nat → Int32) (n p : Nat) (key : Int32) (i : Nat) : Int32 := if i < p then s (13 * n + (5 + i)) else if i = p then key else s (13 * n + (5 + (i - 1)))
theorem q_bl (S : Sh h) {n m p : Nat} (hn : n < 24) (hm : m ≤ 4) (hp : p ≤ m) (em : s (13 * n + 1) = nI m) {key : Int32} (hlt : ∀ i, i < p → ¬ key < s (13 * n + (5 + i))) (hge : ∀ i, p ≤ i → i < m → key < s (13 * n + (5 + i))) {q : zQs} {u3 u4 : Value} : ∃ bk bc, zv 2 164 0 [.ref 211, .int (nI n), .int key, u3, u4] [] (zQ h q s) = some (none, zQ h (bk, bc, nI (m + 1), q.2.2.2) s) ∧ ∀ t, t ≤ m → bk t = blF s n p key t ∧ bc t = -4 := by
  have adds : ∀ {bk bc : Nat → Int32} {cnt : Nat} {k2 : Int32}, (∀ t, t < cnt → bk t = blF s n p key t ∧ bc t = -4) → k2 = blF s n p key cnt → ∀ t, t < cnt + 1 → up bk cnt k2 t = blF s n p key t ∧ up bc cnt (-4) t = -4 := by
    intro bk bc cnt k2 h1 h2 t ht
    by_cases e : t = cnt
    · subst e
      rw [up_s, up_s]
      exact ⟨h2, rfl⟩
    · rw [up_n _ _ e, up_n _ _ e]
      exact h1 t (by omega)
  have loop : ∀ d i bk bc cnt, i + d = m → cnt = (if p < i then i + 1 else i) → (∀ t, t < cnt → bk t = blF s n p key t ∧ bc t = -4) → ∃ bk' bc', zv 2 164 10 [.ref 211, .int (nI n), .int key, .int (if p < i then 1 else 0), .int (nI i)] [] (zQ h (bk, bc, nI cnt, q.2.2.2) s) = some (none, zQ h (bk', bc', nI (m + 1), q.2.2.2) s) ∧ ∀ t, t ≤ m → bk' t = blF s n p key t ∧ bc' t = -4 := by
    intro d
    induction d with
    | zero =>
      intro i bk bc cnt hi hc hr
      have e : i = m := by omega
      subst e
      rw [b164_10 (q_g0 S) (q_g1 S), q_of1 S hn, em]
      simp only [Option.bind_some, Option.toList_some, List.cons_append, List.nil_append]
      rw [b164_18, if_neg (nI_nlt (Nat.le_refl _) (by omega)), b164_68]
      by_cases hpi : p < i
      · rw [if_pos hpi] at hc ⊢
        subst hc
        rw [if_neg (by decide), b164_79]
        exact ⟨bk, bc, rfl, fun t ht => hr t (by omega)⟩
      · rw [if_neg hpi] at hc ⊢
        subst hc
        have hpe : p = cnt := by omega
        rw [if_pos rfl, b164_72 (q_g0 S) (q_g1 S), q_ba S (m := cnt) (by omega) rfl]
        simp only [Option.bind_some, Option.toList_none, List.nil_append]
        rw [b164_79]
        refine ⟨_, _, rfl, fun t ht => adds hr ?_ t (by omega)⟩
        rw [blF, if_neg (by omega), if_pos hpe.symm]
    | succ d ih =>
      intro i bk bc cnt hi hc hr
      have e5 : (5 : Int32) + nI i = nI (5 + i) := nI_add 5 i
      rw [b164_10 (q_g0 S) (q_g1 S), q_of1 S hn, em]
      simp only [Option.bind_some, Option.toList_some, List.cons_append, List.nil_append]
      rw [b164_18, if_pos (nI_lt (by omega) (by omega)), b164_21]
      by_cases hpi : p < i
      · rw [if_pos hpi] at hc ⊢
        subst hc
        rw [if_neg (by decide), b164_47 (q_g0 S) (q_g1 S), e5, q_of S hn (by omega)]
        simp only [Option.bind_some, Option.toList_some, List.cons_append, List.nil_append]
        rw [b164_57 (q_g0 S) (q_g1 S), q_ba S (m := i + 1) (by omega) rfl]
        simp only [Option.bind_some, Option.toList_none, List.nil_append]
        rw [b164_62, nI_1]
        have hx := ih (i + 1) (up bk (i + 1) (s (13 * n + (5 + i)))) (up bc (i + 1) (-4)) (i + 2) (by omega) (by rw [if_pos (by omega)]) (adds hr (by rw [blF, if_neg (by omega), if_neg (by omega), Nat.add_sub_cancel]))
        rw [if_pos (by omega)] at hx
        exact hx
      · rw [if_neg hpi] at hc ⊢
        subst hc
        rw [if_pos rfl, b164_25 (q_g0 S) (q_g1 S), e5, q_of S hn (by omega)]
        simp only [Option.bind_some, Option.toList_some, List.cons_append, List.nil_append]
        rw [b164_34]
        by_cases hpe : p = cnt
        · rw [if_pos (hge cnt (by omega) (by omega)), b164_38 (q_g0 S) (q_g1 S), q_ba S (m := cnt) (by omega) rfl]
          simp only [Option.bind_some, Option.toList_none, List.nil_append]
          rw [b164_45, b164_47 (q_g0 S) (q_g1 S), e5, q_of S hn (by omega)]
          simp only [Option.bind_some, Option.toList_some, List.cons_append, List.nil_append]
          rw [b164_57 (q_g0 S) (q_g1 S), q_ba S (m := cnt + 1) (by omega) rfl]
          simp only [Option.bind_some, Option.toList_none, List.nil_append]
          rw [b164_62, nI_1]
          have h1 := adds hr (k2 := key) (by rw [blF, if_neg (by omega), if_pos hpe.symm])
          have hx := ih (cnt + 1) (up (up bk cnt key) (cnt + 1) (s (13 * n + (5 + cnt)))) (up (up bc cnt (-4)) (cnt + 1) (-4)) (cnt + 2) (by omega) (by rw [if_pos (by omega)]) (adds h1 (by rw [blF, if_neg (by omega), if_neg (by omega), Nat.add_sub_cancel]))
          rw [if_pos (by omega)] at hx
          exact hx
        · rw [if_neg (hlt cnt (by omega)), b164_47 (q_g0 S) (q_g1 S), e5, q_of S hn (by omega)]
          simp only [Option.bind_some, Option.toList_some, List.cons_append, List.nil_append]
          rw [b164_57 (q_g0 S) (q_g1 S), q_ba S (m := cnt) (by omega) rfl]
          simp only [Option.bind_some, Option.toList_none, List.nil_append]
          rw [b164_62, nI_1]
          have hx := ih (cnt + 1) (up bk cnt (s (13 * n + (5 + cnt)))) (up bc cnt (-4)) (cnt + 1) (by omega) (by rw [if_neg (by omega)]) (adds hr (by rw [blF, if_pos (by omega)]))
          rw [if_neg (by omega)] at hx
          exact hx
  rw [b164_0 (q_g0 S) (q_g1 S), zQ_wm]
  have hx := loop m 0 q.1 q.2.1 0 (by omega) (by rw [if_neg (by omega)]) (fun t ht => absurd ht (Nat.not_lt_zero t))
  rw [if_neg (by omega)] at hx
  exact hx
/-- splits -/
def spF (s : Nat → Int32) (c n v t ls bm : Nat) (bk bc : Nat → Int32) : Nat → Int32 := poF (up (up (nH (nH (nnF s v (s (13 * n)) (s (13 * n + 2)) (s (13 * n + 3))) v (fun i => bk (ls + i)) (fun i => bc (ls + i)) (bm - ls)) n bk bc ls) (13 * n + 3) (nI v)) (13 * n + 2) (bk (ls - 1))) c (t + 1) (bk (ls - 1)) (nI v) 0
theorem nH_o {s g gc : Nat → Int32} {n k j : Nat} (hk : k ≤ 4) (hj : j < 13 * n ∨ j = 13 * n ∨ j = 13 * n + 2 ∨ j = 13 * n + 3 ∨ j = 13 * n + 4 ∨ 13 * n + 13 ≤ j) : nH s n g gc k j = s j := by
  rw [nH, up_n _ _ (by omega), nP, if_neg (by omega), if_neg (by omega)]
theorem nn_o {s : Nat → Int32} {v j : Nat} {lv hi rt : Int32} (h1 : j ≠ 312) (hj : j < 13 * v ∨ 13 * v + 5 ≤ j) : nnF s v lv hi rt j = s j := by
  rw [nnF, up_n _ _ (by omega), up_n _ _ (by omega), up_n _ _ (by omega), up_n _ _ (by omega), up_n _ _ h1]
theorem q_sp (S : Sh h) {c n v t ls bm : Nat} {q : zQs} (hc : c < 3) (hn : n < 24) (hv : v < 24) (hnv : n < v) (e : s (315 + 24 * c + 3) = nI n) (ev : s 312 = nI v) (eb : q.2.2.1 = nI bm) (hb : bm = 3 ∧ ls = 2 ∨ bm = 4 ∧ ls = 2 ∨ bm = 5 ∧ ls = 3) (et : s (13 * n) = nI t) (ht : t < 11) {u2 u3 u4 : Value} : zv 3 157 0 [.ref 211, .int (nI c), u2, u3, u4] [] (zQ h q s) = some (none, zQ h q (spF s c n v t ls bm q.1 q.2.1)) := by
  have h2 : (nI bm + 1) / 2 = nI ls := by rcases hb with ⟨rfl, rfl⟩ | ⟨rfl, rfl⟩ | ⟨rfl, rfl⟩ <;> decide
  have hl1 : nI ls - 1 = nI (ls - 1) := by rw [show (1 : Int32) = nI 1 from rfl, nI_sub (by omega)]
  have hin : ∀ {q2 : zQs} {s2 : Nat → Int32}, ¬ (nI (ls - 1) < 0 ∨ (zh_k (zQ h q2 s2) 215).2 ≤ (nI (ls - 1)).toNatClampNeg) := by
    intro q2 s2
    rw [zQ_k, S.k, kx_215]
    exact zj_n (by omega) (by decide)
  rw [b157_0 (q_g0 S) (q_g1 S), q_oc3 S hc, e]
  simp only [Option.bind_some, Option.toList_some, List.cons_append, List.nil_append]
  rw [b157_6 (q_g0 S) (q_g1 S), q_of0 S hn, zQ_2115, eb, h2]
  simp only [Option.bind_some, Option.toList_some, List.cons_append, List.nil_append]
  rw [b157_23 (q_g0 S) (q_g1 S), q_of2 S hn]
  simp only [Option.bind_some, Option.toList_some, List.cons_append, List.nil_append]
  rw [b157_29 (q_g0 S) (q_g1 S), q_of3 S hn]
  simp only [Option.bind_some, Option.toList_some, List.cons_append, List.nil_append]
  rw [b157_35 (q_g0 S) (q_g1 S), q_nn S hv ev]
  simp only [Option.bind_some, Option.toList_some, List.cons_append, List.nil_append]
  rw [b157_38 (q_g0 S) (q_g1 S), zQ_2115, eb, q_nh S hv (by omega) (by omega) (by omega)]
  simp only [Option.bind_some, Option.toList_none, List.nil_append]
  rw [b157_51 (q_g0 S) (q_g1 S), show (0 : Int32) = nI 0 from rfl, q_nh S hn (by omega) (by omega) (by omega)]
  simp only [Option.bind_some, Option.toList_none, List.nil_append, Nat.zero_add, Nat.sub_zero]
  rw [b157_58 (q_g0 S) (q_g1 S), q_nb3 S hn]
  simp only [Option.bind_some, Option.toList_none, List.nil_append]
  rw [b157_66 (q_g0 S) (q_g1 S) (by rw [q_r3 S, zq_rf]) (by rw [q_r3 S, zq_rf, zQ_n, S.n]; decide) (by rw [q_r3 S, zq_rf, hl1]; exact hin) (by rw [q_r3 S, zq_rf, zQ_k, S.k, kx_215]), q_r3 S, zq_rf, hl1, nI_clamp (by omega), zQ_215, q_nb2 S hn]
  simp only [Option.bind_some, Option.toList_none, List.nil_append]
  rw [b157_80 (q_g0 S) (q_g1 S) (by rw [q_r3 S, zq_rf]) (by rw [q_r3 S, zq_rf, zQ_n, S.n]; decide) (by rw [q_r3 S, zq_rf, hl1]; exact hin) (by rw [q_r3 S, zq_rf, zQ_k, S.k, kx_215]), q_r3 S, zq_rf, hl1, nI_clamp (by omega), zQ_215, q_of0 S hn]
  simp only [Option.bind_some, Option.toList_some, List.cons_append, List.nil_append]
  rw [un_n0 _ _ (by decide), un_n0 _ _ (by decide), nH_o (by omega) (by omega), nH_o (by omega) (by omega), nn_o (by omega) (by omega), et, b157_98 (q_g0 S) (q_g1 S), nI_1, show (0 : Int32) = nI 0 from rfl, q_po S hc (by omega)]
  simp only [Option.bind_some, Option.toList_none, List.nil_append]
  rw [b157_104, spF, et]
  rfl
end R20D
