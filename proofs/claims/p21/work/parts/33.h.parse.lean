/-! THE CLASS: its text is read, a token at a time -/
section R33H
variable {h : zi_Hp} {a p A K F : Nat → Int32} {b : Bool} {t n : Nat}
theorem s_g0 (S : Sh h) : (197 : Nat) < zh_n (zS h a p A K F b) := by rw [zS_n, S.n]; decide
theorem s_g1 (S : Sh h) : (zh_k (zS h a p A K F b) 197).1 = 3 := by rw [zS_k, S.k, kx_197]
theorem s_g2 (S : Sh h) : (199 : Nat) < zh_n (zS h a p A K F b) := by rw [zS_n, S.n]; decide
theorem s_g3 (S : Sh h) : (zh_k (zS h a p A K F b) 199).1 = 1 := by rw [zS_k, S.k, kx_199]
def TS (a : Nat → Int32) (t : Nat) : Prop := (∃ n, TJ a t n) ∧ (a 2 = 3 → ∃ v, a 4 = nI v ∧ v ≤ 99)
theorem TJ.u1 (T : TJ a t n) {k : Nat} {v : Int32} (h1 : k ≠ 1) (h5 : k ≠ 5) : TJ (up a k v) t n := ⟨T.1, by rw [up_n _ _ (Ne.symm h1)]; exact T.2.1, T.2.2.1, by rw [up_n _ _ (Ne.symm h5)]; exact T.2.2.2⟩
theorem TJ.nx (T : TJ a t n) {k : Nat} (hk : k ≤ t) : TJ (up a 5 (nI k)) t k := ⟨T.1, by rw [up_n _ _ (by decide)]; exact T.2.1, hk, up_s _ _ _⟩
theorem s_end (S : Sh h) {x : Int32} : zv 3 30 162 [.ref 197, .int x] [] (zS h a p A K F b) = some (none, zS h a p A K F b) := by rw [b30_162]
/-- letters -/
theorem s_lt (S : Sh h) {x : Int32} : ∀ d n a, n + d = t → TJ a t n → ∃ n', n ≤ n' ∧ zv 3 30 85 [.ref 197, .int x] [] (zS h a p A K F b) = some (none, zS h (up a 5 (nI n')) p A K F b) ∧ n' ≤ t
  | 0, n, a, hn, T => by
    have e : n = t := by omega
    subst e
    refine ⟨n, Nat.le_refl _, ?_, Nat.le_refl _⟩
    rw [b30_85 (s_g0 S) (s_g1 S), zS_7, zS_7, T.2.1, T.2.2.2, if_neg Int32.lt_irrefl, s_end S, up_id a 5 T.2.2.2.symm]
  | d + 1, n, a, hn, T => by
    have ht := T.1
    obtain ⟨v, ev⟩ := s_by S (a := a) (p := p) (A := A) (K := K) (F := F) (b := b) (nI n)
    obtain ⟨c, ec⟩ := s_le (h := zS h a p A K F b) (x := v)
    have go : zv 3 30 85 [.ref 197, .int x] [] (zS h a p A K F b) = if zi_bI c = 0 then zv 3 30 162 [.ref 197, .int x] [] (zS h a p A K F b) else zv 3 30 110 [.ref 197, .int x] [] (zS h a p A K F b) := by
      rw [b30_85 (s_g0 S) (s_g1 S), zS_7, zS_7, T.2.1, T.2.2.2, if_pos (nI_lt (by omega) (by omega)), b30_96 (s_g0 S) (s_g1 S), zS_7, T.2.2.2, ev]
      simp only [Option.bind_some, Option.toList_some, Option.toList_none, List.cons_append, List.nil_append]
      rw [b30_104, ec]
      simp only [Option.bind_some, Option.toList_some, Option.toList_none, List.cons_append, List.nil_append]
      rw [b30_107]
    cases c with
    | false => exact ⟨n, Nat.le_refl _, by rw [go, zi_bI_f, if_pos rfl, s_end S, up_id a 5 T.2.2.2.symm], by omega⟩
    | true =>
      obtain ⟨n', h1, e, h2⟩ := s_lt S (x := x) d (n + 1) (up a 5 (nI (n + 1))) (by omega) (T.nx (by omega))
      refine ⟨n', by omega, ?_, h2⟩
      rw [go, zi_bI_t, if_neg (by decide), b30_110 (s_g0 S) (s_g1 S), zS_7, T.2.2.2, nI_s, zS_w7, e]
      congr 3
      funext j
      unfold up
      by_cases q : j = 5
      · rw [if_pos q, if_pos q]
      · rw [if_neg q, if_neg q, if_neg q]
theorem nI_n10 {c i : Nat} : nI c * (10 : Int32) + nI i = nI (10 * c + i) := by
  show Int32.ofNat c * Int32.ofNat 10 + Int32.ofNat i = Int32.ofNat (10 * c + i)
  rw [Int32.ofNat_add, Int32.ofNat_mul, Int32.mul_comm]
/-- figures -/
theorem s_fg (S : Sh h) {st : Nat} : ∀ d n a, n + d = t → TJ a t n → a 3 = nI st → st ≤ n → (n - st ≤ 2 → ∃ w, a 4 = nI w ∧ (n - st = 0 → w = 0) ∧ (n - st ≤ 1 → w ≤ 9) ∧ w ≤ 99) → ∃ a' n', zv 2 31 5 [.ref 197] [] (zS h a p A K F b) = zv 2 31 66 [.ref 197] [] (zS h a' p A K F b) ∧ TJ a' t n' ∧ a' 3 = nI st ∧ st ≤ n' ∧ (n' - st ≤ 2 → ∃ w, a' 4 = nI w ∧ w ≤ 99)
  | 0, n, a, hn, T, e3, hs, hw => by
    have e : n = t := by omega
    subst e
    refine ⟨a, n, ?_, T, e3, hs, fun q => ?_⟩
    · rw [b31_5 (s_g0 S) (s_g1 S), zS_7, zS_7, T.2.1, T.2.2.2, if_neg Int32.lt_irrefl]
    · obtain ⟨w, w1, -, -, w4⟩ := hw q; exact ⟨w, w1, w4⟩
  | d + 1, n, a, hn, T, e3, hs, hw => by
    have ht := T.1
    obtain ⟨v, ev⟩ := s_by S (a := a) (p := p) (A := A) (K := K) (F := F) (b := b) (nI n)
    have go : zv 2 31 5 [.ref 197] [] (zS h a p A K F b) = if zi_bI (decide (¬ v < 48 ∧ ¬ 57 < v)) = 0 then zv 2 31 66 [.ref 197] [] (zS h a p A K F b) else zv 2 31 30 [.ref 197] [] (zS h a p A K F b) := by
      rw [b31_5 (s_g0 S) (s_g1 S), zS_7, zS_7, T.2.1, T.2.2.2, if_pos (nI_lt (by omega) (by omega)), b31_16 (s_g0 S) (s_g1 S), zS_7, T.2.2.2, ev]
      simp only [Option.bind_some, Option.toList_some, Option.toList_none, List.cons_append, List.nil_append]
      rw [b31_24, s_fi]
      simp only [Option.bind_some, Option.toList_some, Option.toList_none, List.cons_append, List.nil_append]
      rw [b31_27]
    by_cases q : ¬ v < 48 ∧ ¬ 57 < v
    · obtain ⟨k, hk, rfl⟩ := nI_ex' (x := v) (b := 57) (by decide) (fun q2 => q.1 (Int32.lt_trans q2 (by decide))) q.2
      have k48 : 48 ≤ k := by
        have := q.1
        rw [show (48 : Int32) = nI 48 from rfl, nI_lt' (by omega) (by omega)] at this; omega
      obtain ⟨a1, ea1⟩ : ∃ a1, a1 = up (up a 4 (a 4 * 10 + nI k - 48)) 5 (nI (n + 1)) := ⟨_, rfl⟩
      have T1 : TJ a1 t (n + 1) := by rw [ea1]; exact (T.u1 (k := 4) (by decide) (by decide)).nx (by omega)
      obtain ⟨a', n', e, T', e3', hs', hw'⟩ := s_fg S (st := st) d (n + 1) a1 (by omega) T1 (by rw [ea1, up_n _ _ (by decide), up_n _ _ (by decide)]; exact e3) (by omega) (fun q2 => by
        obtain ⟨w, w1, w2, w3, w4⟩ := hw (by omega)
        have hw9 : w ≤ 9 := w3 (by omega)
        refine ⟨10 * w + k - 48, ?_, fun q3 => absurd q3 (by omega), fun q3 => ?_, by omega⟩
        · rw [ea1, up_n _ _ (by decide), up_s, w1, nI_n10, show (48 : Int32) = nI 48 from rfl, nI_sub (by omega)]
        · have := w2 (by omega); omega)
      refine ⟨a', n', ?_, T', e3', hs', hw'⟩
      rw [go, decide_eq_true q, zi_bI_t, if_neg (by decide), b31_30 (s_g0 S) (s_g1 S), zS_7, zS_7, T.2.2.2, ev]
      simp only [Option.bind_some, Option.toList_some, Option.toList_none, List.cons_append, List.nil_append]
      rw [b31_46 (s_g0 S) (s_g1 S), zS_w7, b31_55 (s_g0 S) (s_g1 S) (s_g0 S) (s_g1 S), zS_7, up_n _ _ (by decide), T.2.2.2, nI_s, zS_w7, ← ea1, e]
    · refine ⟨a, n, by rw [go, decide_eq_false q, zi_bI_f, if_pos rfl], T, e3, hs, fun q2 => ?_⟩
      obtain ⟨w, w1, -, -, w4⟩ := hw q2; exact ⟨w, w1, w4⟩
theorem s_nu (S : Sh h) (T : TJ a t n) (e3 : a 3 = nI n) : ∃ a', zv 2 31 0 [.ref 197] [] (zS h a p A K F b) = some (none, zS h a' p A K F b) ∧ TS a' t := by
  have ht := T.1
  have hn := T.2.2.1
  obtain ⟨a', n', e, T', e3', hs', hw'⟩ := s_fg S (p := p) (A := A) (K := K) (F := F) (b := b) (st := n) (t - n) n (up a 4 0) (by omega) (T.u1 (by decide) (by decide)) (by rw [up_n _ _ (by decide)]; exact e3) (Nat.le_refl _) (fun _ => ⟨0, up_s _ _ _, fun _ => rfl, fun _ => by omega, by omega⟩)
  have hn' := T'.2.2.1
  have go : zv 2 31 0 [.ref 197] [] (zS h a p A K F b) = if 2 < nI (n' - n) then some (none, zS h (up a' 2 0) p A K F b) else some (none, zS h (up a' 2 3) p A K F b) := by
    rw [b31_0 (s_g0 S) (s_g1 S), zS_w7, e, b31_66 (s_g0 S) (s_g1 S), zS_7, zS_7, T'.2.2.2, e3', nI_sub hs']
    by_cases q : 2 < nI (n' - n)
    · rw [if_pos q, if_pos q, b31_80, b31_85 (s_g0 S) (s_g1 S), zS_w7]
    · rw [if_neg q, if_neg q, b31_84, b31_85 (s_g0 S) (s_g1 S), zS_w7]
  by_cases q : 2 < nI (n' - n)
  · exact ⟨_, by rw [go, if_pos q], ⟨n', T'.u1 (by decide) (by decide)⟩, fun w => by rw [up_s] at w; exact absurd w (by decide)⟩
  · refine ⟨_, by rw [go, if_neg q], ⟨n', T'.u1 (by decide) (by decide)⟩, fun _ => ?_⟩
    rw [show (2 : Int32) = nI 2 from rfl, nI_lt' (by omega) (by omega)] at q
    rw [up_n _ _ (by decide)]
    exact hw' (by omega)
/-- blanks, then a token -/
theorem s_sc (S : Sh h) : ∀ d n a, n + d = t → TJ a t n → ∀ {u : Value}, ∃ a', zv 3 30 0 [.ref 197, u] [] (zS h a p A K F b) = some (none, zS h a' p A K F b) ∧ TS a' t := by
  have tok : ∀ n a, TJ a t n → ∀ {u : Value}, ∃ a', zv 3 30 37 [.ref 197, u] [] (zS h a p A K F b) = some (none, zS h a' p A K F b) ∧ TS a' t := fun n a T {u} => by
    have ht := T.1
    have hn := T.2.2.1
    obtain ⟨a1, ea1⟩ : ∃ a1, a1 = up a 3 (nI n) := ⟨_, rfl⟩
    have T1 : TJ a1 t n := by rw [ea1]; exact T.u1 (by decide) (by decide)
    have e3 : a1 3 = nI n := by rw [ea1, up_s]
    obtain ⟨v, ev⟩ := s_by S (a := a1) (p := p) (A := A) (K := K) (F := F) (b := b) (nI n)
    have go : zv 3 30 37 [.ref 197, u] [] (zS h a p A K F b) = if nI n < nI t then zv 3 30 73 [.ref 197, .int v] [] (zS h a1 p A K F b) else zv 3 30 65 [.ref 197, .int v] [] (zS h a1 p A K F b) := by
      rw [b30_37 (s_g0 S) (s_g1 S), zS_7, T.2.2.2, zS_w7, ← ea1, b30_47 (s_g0 S) (s_g1 S) (s_g0 S) (s_g1 S), zS_7, e3, ev]
      simp only [Option.bind_some, Option.toList_some, Option.toList_none, List.cons_append, List.nil_append]
      rw [b30_53 (s_g0 S) (s_g1 S), zS_7, zS_7, e3, T1.2.1]
    by_cases q : nI n < nI t
    · have hnt : n < t := by rw [nI_lt' (by omega) (by omega)] at q; exact q
      obtain ⟨c, ec⟩ := s_le (h := zS h a1 p A K F b) (x := v)
      rw [go, if_pos q, b30_73, ec]
      simp only [Option.bind_some, Option.toList_some, Option.toList_none, List.cons_append, List.nil_append]
      rw [b30_77]
      cases c with
      | true =>
        obtain ⟨n', h1, e, h2⟩ := s_lt S (p := p) (A := A) (K := K) (F := F) (b := b) (x := v) (t - n) n (up a1 2 2) (by omega) (T1.u1 (by decide) (by decide))
        refine ⟨_, by rw [zi_bI_t, if_neg (by decide), b30_80 (s_g0 S) (s_g1 S), zS_w7, e], ⟨n', (T1.u1 (by decide) (by decide)).nx h2⟩, fun w => ?_⟩
        rw [up_n _ _ (by decide), up_s] at w; exact absurd w (by decide)
      | false =>
        rw [zi_bI_f, if_pos rfl, b30_123, s_fi]
        simp only [Option.bind_some, Option.toList_some, Option.toList_none, List.cons_append, List.nil_append]
        rw [b30_127]
        by_cases qf : ¬ v < 48 ∧ ¬ 57 < v
        · obtain ⟨a', e, T'⟩ := s_nu S (p := p) (A := A) (K := K) (F := F) (b := b) T1 e3
          refine ⟨a', ?_, T'⟩
          rw [decide_eq_true qf, zi_bI_t, if_neg (by decide), b30_130 (s_g0 S) (s_g1 S), e]
          simp only [Option.bind_some, Option.toList_some, Option.toList_none, List.cons_append, List.nil_append]
          rw [b30_134, s_end S]
        · have fin : ∀ w : Int32, ¬ w = 3 → ∃ a', zv 3 30 149 [.ref 197, .int v] [.int w, .ref 197] (zS h a1 p A K F b) = some (none, zS h a' p A K F b) ∧ TS a' t := fun w hw => by
            refine ⟨up (up a1 2 w) 5 (nI (n + 1)), ?_, ⟨n + 1, (T1.u1 (by decide) (by decide)).nx (by omega)⟩, fun z => ?_⟩
            · rw [b30_149 (s_g0 S) (s_g1 S), zS_w7, b30_154 (s_g0 S) (s_g1 S) (s_g0 S) (s_g1 S), zS_7, up_n _ _ (by decide), T1.2.2.2, nI_s, zS_w7, s_end S]
            · rw [up_n _ _ (by decide), up_s] at z; exact absurd z hw
          rw [decide_eq_false qf, zi_bI_f, if_pos rfl, b30_137]
          by_cases q9 : v = 59
          · rw [if_pos q9, b30_144]; exact fin 4 (by decide)
          · rw [if_neg q9, b30_148]; exact fin 0 (by decide)
    · refine ⟨up a1 2 1, by rw [go, if_neg q, b30_65 (s_g0 S) (s_g1 S), zS_w7, s_end S], ⟨n, T1.u1 (by decide) (by decide)⟩, fun w => ?_⟩
      rw [up_s] at w; exact absurd w (by decide)
  intro d
  induction d with
  | zero =>
    intro n a hn T u
    have e : n = t := by omega
    subst e
    rw [b30_0 (s_g0 S) (s_g1 S), zS_7, zS_7, T.2.1, T.2.2.2, if_neg Int32.lt_irrefl]
    exact tok _ _ T
  | succ d ih =>
    intro n a hn T u
    have ht := T.1
    obtain ⟨v, ev⟩ := s_by S (a := a) (p := p) (A := A) (K := K) (F := F) (b := b) (nI n)
    rw [b30_0 (s_g0 S) (s_g1 S), zS_7, zS_7, T.2.1, T.2.2.2, if_pos (nI_lt (by omega) (by omega)), b30_11 (s_g0 S) (s_g1 S), zS_7, T.2.2.2, ev]
    simp only [Option.bind_some, Option.toList_some, Option.toList_none, List.cons_append, List.nil_append]
    rw [b30_19]
    by_cases q : v = 32
    · rw [if_pos q, b30_24 (s_g0 S) (s_g1 S), zS_7, T.2.2.2, nI_s, zS_w7]
      exact ih (n + 1) _ (by omega) (T.nx (by omega))
    · rw [if_neg q]; exact tok _ _ T
theorem TS.sc (S : Sh h) (T : TS a t) {u : Value} : ∃ a', zv 3 30 0 [.ref 197, u] [] (zS h a p A K F b) = some (none, zS h a' p A K F b) ∧ TS a' t := by
  obtain ⟨⟨n, T⟩, -⟩ := T
  exact s_sc S (t - n) n a (by have := T.2.2.1; omega) T
end R33H
