section
/-! THE REFERENCE: its row of numbers (cell 212), read and written -/
section R20
variable {h : zi_Hp}
theorem jx_13 (n w : Nat) : (13 : Int32) * nI n + nI w = nI (13 * n + w) := by
  show Int32.ofNat 13 * Int32.ofNat n + Int32.ofNat w = Int32.ofNat (13 * n + w)
  rw [Int32.ofNat_add, Int32.ofNat_mul]
theorem jx_24 (c w : Nat) : (315 : Int32) + 24 * nI c + nI w = nI (315 + 24 * c + w) := by
  show Int32.ofNat 315 + Int32.ofNat 24 * Int32.ofNat c + Int32.ofNat w = Int32.ofNat (315 + 24 * c + w)
  rw [Int32.ofNat_add, Int32.ofNat_add, Int32.ofNat_mul]
theorem r_r0 (S : Sh h) : zh_r h 211 0 = .ref 212 := by rw [S.r, rx_211_0]
theorem r_of (S : Sh h) {n w : Nat} (hn : n < 24) (hw : w < 13) : zv 1 144 0 [.ref 211, .int (nI n), .int (nI w)] [] h = some (some (.int (zh_i h 212 (13 * n + w))), h) := by
  rw [b144_0 (by rw [S.n]; decide) (by rw [S.k, kx_211]) (by rw [r_r0 S, zq_rf]) (by rw [r_r0 S, zq_rf, S.n]; decide) (by rw [r_r0 S, zq_rf, S.k, kx_212, jx_13]; exact zj_n (by omega) (by decide)) (by rw [r_r0 S, zq_rf, S.k, kx_212]), r_r0 S, zq_rf, jx_13, nI_clamp (by omega)]
theorem r_nb (S : Sh h) {n w : Nat} {v : Int32} (hn : n < 24) (hw : w < 13) : zv 1 145 0 [.ref 211, .int (nI n), .int (nI w), .int v] [] h = some (none, zh_wi h 212 (13 * n + w) v) := by
  rw [b145_0 (by rw [S.n]; decide) (by rw [S.k, kx_211]) (by rw [r_r0 S, zq_rf]) (by rw [r_r0 S, zq_rf, S.n]; decide) (by rw [r_r0 S, zq_rf, S.k, kx_212, jx_13]; exact zj_n (by omega) (by decide)) (by rw [r_r0 S, zq_rf, S.k, kx_212]), r_r0 S, zq_rf, jx_13, nI_clamp (by omega)]
theorem r_oc (S : Sh h) {c w : Nat} (hc : c < 3) (hw : w < 24) : zv 1 146 0 [.ref 211, .int (nI c), .int (nI w)] [] h = some (some (.int (zh_i h 212 (315 + 24 * c + w))), h) := by
  rw [b146_0 (by rw [S.n]; decide) (by rw [S.k, kx_211]) (by rw [r_r0 S, zq_rf]) (by rw [r_r0 S, zq_rf, S.n]; decide) (by rw [r_r0 S, zq_rf, S.k, kx_212, jx_24]; exact zj_n (by omega) (by decide)) (by rw [r_r0 S, zq_rf, S.k, kx_212]), r_r0 S, zq_rf, jx_24, nI_clamp (by omega)]
theorem r_cb (S : Sh h) {c w : Nat} {v : Int32} (hc : c < 3) (hw : w < 24) : zv 1 147 0 [.ref 211, .int (nI c), .int (nI w), .int v] [] h = some (none, zh_wi h 212 (315 + 24 * c + w) v) := by
  rw [b147_0 (by rw [S.n]; decide) (by rw [S.k, kx_211]) (by rw [r_r0 S, zq_rf]) (by rw [r_r0 S, zq_rf, S.n]; decide) (by rw [r_r0 S, zq_rf, S.k, kx_212, jx_24]; exact zj_n (by omega) (by decide)) (by rw [r_r0 S, zq_rf, S.k, kx_212]), r_r0 S, zq_rf, jx_24, nI_clamp (by omega)]
theorem r_of0 (S : Sh h) {n : Nat} (hn : n < 24) : zv 1 144 0 [.ref 211, .int (nI n), .int 0] [] h = some (some (.int (zh_i h 212 (13 * n))), h) := r_of S hn (w := 0) (by decide)
theorem r_nb0 (S : Sh h) {n : Nat} {v : Int32} (hn : n < 24) : zv 1 145 0 [.ref 211, .int (nI n), .int 0, .int v] [] h = some (none, zh_wi h 212 (13 * n) v) := r_nb S hn (w := 0) (by decide)
theorem r_of1 (S : Sh h) {n : Nat} (hn : n < 24) : zv 1 144 0 [.ref 211, .int (nI n), .int 1] [] h = some (some (.int (zh_i h 212 (13 * n + 1))), h) := r_of S hn (w := 1) (by decide)
theorem r_nb1 (S : Sh h) {n : Nat} {v : Int32} (hn : n < 24) : zv 1 145 0 [.ref 211, .int (nI n), .int 1, .int v] [] h = some (none, zh_wi h 212 (13 * n + 1) v) := r_nb S hn (w := 1) (by decide)
theorem r_of2 (S : Sh h) {n : Nat} (hn : n < 24) : zv 1 144 0 [.ref 211, .int (nI n), .int 2] [] h = some (some (.int (zh_i h 212 (13 * n + 2))), h) := r_of S hn (w := 2) (by decide)
theorem r_nb2 (S : Sh h) {n : Nat} {v : Int32} (hn : n < 24) : zv 1 145 0 [.ref 211, .int (nI n), .int 2, .int v] [] h = some (none, zh_wi h 212 (13 * n + 2) v) := r_nb S hn (w := 2) (by decide)
theorem r_of3 (S : Sh h) {n : Nat} (hn : n < 24) : zv 1 144 0 [.ref 211, .int (nI n), .int 3] [] h = some (some (.int (zh_i h 212 (13 * n + 3))), h) := r_of S hn (w := 3) (by decide)
theorem r_nb3 (S : Sh h) {n : Nat} {v : Int32} (hn : n < 24) : zv 1 145 0 [.ref 211, .int (nI n), .int 3, .int v] [] h = some (none, zh_wi h 212 (13 * n + 3) v) := r_nb S hn (w := 3) (by decide)
theorem r_of4 (S : Sh h) {n : Nat} (hn : n < 24) : zv 1 144 0 [.ref 211, .int (nI n), .int 4] [] h = some (some (.int (zh_i h 212 (13 * n + 4))), h) := r_of S hn (w := 4) (by decide)
theorem r_nb4 (S : Sh h) {n : Nat} {v : Int32} (hn : n < 24) : zv 1 145 0 [.ref 211, .int (nI n), .int 4, .int v] [] h = some (none, zh_wi h 212 (13 * n + 4) v) := r_nb S hn (w := 4) (by decide)
theorem r_oc0 (S : Sh h) {c : Nat} (hc : c < 3) : zv 1 146 0 [.ref 211, .int (nI c), .int 0] [] h = some (some (.int (zh_i h 212 (315 + 24 * c))), h) := r_oc S hc (w := 0) (by decide)
theorem r_cb0 (S : Sh h) {c : Nat} {v : Int32} (hc : c < 3) : zv 1 147 0 [.ref 211, .int (nI c), .int 0, .int v] [] h = some (none, zh_wi h 212 (315 + 24 * c) v) := r_cb S hc (w := 0) (by decide)
theorem r_oc1 (S : Sh h) {c : Nat} (hc : c < 3) : zv 1 146 0 [.ref 211, .int (nI c), .int 1] [] h = some (some (.int (zh_i h 212 (315 + 24 * c + 1))), h) := r_oc S hc (w := 1) (by decide)
theorem r_cb1 (S : Sh h) {c : Nat} {v : Int32} (hc : c < 3) : zv 1 147 0 [.ref 211, .int (nI c), .int 1, .int v] [] h = some (none, zh_wi h 212 (315 + 24 * c + 1) v) := r_cb S hc (w := 1) (by decide)
theorem r_oc2 (S : Sh h) {c : Nat} (hc : c < 3) : zv 1 146 0 [.ref 211, .int (nI c), .int 2] [] h = some (some (.int (zh_i h 212 (315 + 24 * c + 2))), h) := r_oc S hc (w := 2) (by decide)
theorem r_cb2 (S : Sh h) {c : Nat} {v : Int32} (hc : c < 3) : zv 1 147 0 [.ref 211, .int (nI c), .int 2, .int v] [] h = some (none, zh_wi h 212 (315 + 24 * c + 2) v) := r_cb S hc (w := 2) (by decide)
theorem r_oc3 (S : Sh h) {c : Nat} (hc : c < 3) : zv 1 146 0 [.ref 211, .int (nI c), .int 3] [] h = some (some (.int (zh_i h 212 (315 + 24 * c + 3))), h) := r_oc S hc (w := 3) (by decide)
theorem r_cb3 (S : Sh h) {c : Nat} {v : Int32} (hc : c < 3) : zv 1 147 0 [.ref 211, .int (nI c), .int 3, .int v] [] h = some (none, zh_wi h 212 (315 + 24 * c + 3) v) := r_cb S hc (w := 3) (by decide)
theorem r_oc4 (S : Sh h) {c : Nat} (hc : c < 3) : zv 1 146 0 [.ref 211, .int (nI c), .int 4] [] h = some (some (.int (zh_i h 212 (315 + 24 * c + 4))), h) := r_oc S hc (w := 4) (by decide)
theorem r_cb4 (S : Sh h) {c : Nat} {v : Int32} (hc : c < 3) : zv 1 147 0 [.ref 211, .int (nI c), .int 4, .int v] [] h = some (none, zh_wi h 212 (315 + 24 * c + 4) v) := r_cb S hc (w := 4) (by decide)
theorem r_oc5 (S : Sh h) {c : Nat} (hc : c < 3) : zv 1 146 0 [.ref 211, .int (nI c), .int 5] [] h = some (some (.int (zh_i h 212 (315 + 24 * c + 5))), h) := r_oc S hc (w := 5) (by decide)
theorem r_cb5 (S : Sh h) {c : Nat} {v : Int32} (hc : c < 3) : zv 1 147 0 [.ref 211, .int (nI c), .int 5, .int v] [] h = some (none, zh_wi h 212 (315 + 24 * c + 5) v) := r_cb S hc (w := 5) (by decide)
theorem r_oc6 (S : Sh h) {c : Nat} (hc : c < 3) : zv 1 146 0 [.ref 211, .int (nI c), .int 6] [] h = some (some (.int (zh_i h 212 (315 + 24 * c + 6))), h) := r_oc S hc (w := 6) (by decide)
theorem r_cb6 (S : Sh h) {c : Nat} {v : Int32} (hc : c < 3) : zv 1 147 0 [.ref 211, .int (nI c), .int 6, .int v] [] h = some (none, zh_wi h 212 (315 + 24 * c + 6) v) := r_cb S hc (w := 6) (by decide)
theorem r_oc7 (S : Sh h) {c : Nat} (hc : c < 3) : zv 1 146 0 [.ref 211, .int (nI c), .int 7] [] h = some (some (.int (zh_i h 212 (315 + 24 * c + 7))), h) := r_oc S hc (w := 7) (by decide)
theorem r_cb7 (S : Sh h) {c : Nat} {v : Int32} (hc : c < 3) : zv 1 147 0 [.ref 211, .int (nI c), .int 7, .int v] [] h = some (none, zh_wi h 212 (315 + 24 * c + 7) v) := r_cb S hc (w := 7) (by decide)
theorem r_oc8 (S : Sh h) {c : Nat} (hc : c < 3) : zv 1 146 0 [.ref 211, .int (nI c), .int 8] [] h = some (some (.int (zh_i h 212 (315 + 24 * c + 8))), h) := r_oc S hc (w := 8) (by decide)
theorem r_cb8 (S : Sh h) {c : Nat} {v : Int32} (hc : c < 3) : zv 1 147 0 [.ref 211, .int (nI c), .int 8, .int v] [] h = some (none, zh_wi h 212 (315 + 24 * c + 8) v) := r_cb S hc (w := 8) (by decide)
theorem r_oc9 (S : Sh h) {c : Nat} (hc : c < 3) : zv 1 146 0 [.ref 211, .int (nI c), .int 9] [] h = some (some (.int (zh_i h 212 (315 + 24 * c + 9))), h) := r_oc S hc (w := 9) (by decide)
theorem r_cb9 (S : Sh h) {c : Nat} {v : Int32} (hc : c < 3) : zv 1 147 0 [.ref 211, .int (nI c), .int 9, .int v] [] h = some (none, zh_wi h 212 (315 + 24 * c + 9) v) := r_cb S hc (w := 9) (by decide)
theorem r_oc10 (S : Sh h) {c : Nat} (hc : c < 3) : zv 1 146 0 [.ref 211, .int (nI c), .int 10] [] h = some (some (.int (zh_i h 212 (315 + 24 * c + 10))), h) := r_oc S hc (w := 10) (by decide)
theorem r_cb10 (S : Sh h) {c : Nat} {v : Int32} (hc : c < 3) : zv 1 147 0 [.ref 211, .int (nI c), .int 10, .int v] [] h = some (none, zh_wi h 212 (315 + 24 * c + 10) v) := r_cb S hc (w := 10) (by decide)
theorem r_oc11 (S : Sh h) {c : Nat} (hc : c < 3) : zv 1 146 0 [.ref 211, .int (nI c), .int 11] [] h = some (some (.int (zh_i h 212 (315 + 24 * c + 11))), h) := r_oc S hc (w := 11) (by decide)
theorem r_cb11 (S : Sh h) {c : Nat} {v : Int32} (hc : c < 3) : zv 1 147 0 [.ref 211, .int (nI c), .int 11, .int v] [] h = some (none, zh_wi h 212 (315 + 24 * c + 11) v) := r_cb S hc (w := 11) (by decide)
theorem r_flag {x : Int32} : zv 1 143 0 [.int x] [] h = some (some (.int (if x = 0 then 0 else 1)), h) := by
  rw [b143_0]
  by_cases hx : x = 0
  · rw [if_pos hx, if_pos hx, b143_8, b143_9]
  · rw [if_neg hx, if_neg hx, b143_4, b143_9]
/-- who holds a node -/
abbrev lkO (s : Nat → Int32) (c : Nat) (x : Int32) : Prop := (s (315 + 24 * c) = 2 ∨ s (315 + 24 * c) = 4) ∧ s (315 + 24 * c + 3) = x
def lkB (s : Nat → Int32) (x : Int32) : Int32 := if lkO s 0 x then 0 else if lkO s 1 x then 1 else if lkO s 2 x then 2 else -4
theorem r_lkI (S : Sh h) {c : Nat} (hc : c < 3) {x f : Int32} {u : Value} : ∃ u', zv 2 149 5 [.ref 211, .int x, .int f, .int (nI c), u] [] h = zv 2 149 5 [.ref 211, .int x, .int (if lkO (zh_i h 212) c x then nI c else f), .int (nI c + (-1)), u'] [] h := by
  have g0 : (211 : Nat) < zh_n h := by rw [S.n]; decide
  have g1 : (zh_k h 211).1 = 8 := by rw [S.k, kx_211]
  rw [b149_5, if_neg (nI_pos (by omega)), b149_9 g0 g1, r_oc0 S hc]
  simp only [Option.bind_some, Option.toList_some, List.cons_append, List.nil_append]
  rw [b149_15]
  by_cases a2 : zh_i h 212 (315 + 24 * c) = 2
  · rw [if_pos a2, b149_29, b149_34, if_neg (by decide), b149_41 g0 g1, r_oc3 S hc]
    simp only [Option.bind_some, Option.toList_some, List.cons_append, List.nil_append]
    rw [b149_47]
    by_cases a3 : zh_i h 212 (315 + 24 * c + 3) = x
    · rw [if_pos a3, if_pos ⟨Or.inl a2, a3⟩, b149_51, b149_56]
      exact ⟨_, rfl⟩
    · rw [if_neg a3, if_neg (fun q => a3 q.2), b149_55, b149_56]
      exact ⟨_, rfl⟩
  · rw [if_neg a2, b149_19 g0 g1, r_oc0 S hc]
    simp only [Option.bind_some, Option.toList_some, List.cons_append, List.nil_append]
    rw [b149_25]
    by_cases a4 : zh_i h 212 (315 + 24 * c) = 4
    · rw [if_pos a4, b149_29, b149_34, if_neg (by decide), b149_41 g0 g1, r_oc3 S hc]
      simp only [Option.bind_some, Option.toList_some, List.cons_append, List.nil_append]
      rw [b149_47]
      by_cases a3 : zh_i h 212 (315 + 24 * c + 3) = x
      · rw [if_pos a3, if_pos ⟨Or.inr a4, a3⟩, b149_51, b149_56]
        exact ⟨_, rfl⟩
      · rw [if_neg a3, if_neg (fun q => a3 q.2), b149_55, b149_56]
        exact ⟨_, rfl⟩
    · rw [if_neg a4, b149_33, b149_34, if_pos rfl, b149_55, b149_56, if_neg (fun q => q.1.elim a2 a4)]
      exact ⟨_, rfl⟩
theorem r_lk (S : Sh h) {x : Int32} {u2 u3 u4 : Value} : zv 2 149 0 [.ref 211, .int x, u2, u3, u4] [] h = some (some (.int (lkB (zh_i h 212) x)), h) := by
  rw [b149_0]
  obtain ⟨v2, e2⟩ := r_lkI S (c := 2) (by decide) (x := x) (f := -4) (u := u4)
  rw [show (2 : Int32) = nI 2 from rfl, e2, show nI 2 + (-1) = nI 1 from rfl]
  obtain ⟨v1, e1⟩ := r_lkI S (c := 1) (by decide) (x := x) (f := if lkO (zh_i h 212) 2 x then nI 2 else -4) (u := v2)
  rw [e1, show nI 1 + (-1) = nI 0 from rfl]
  obtain ⟨v0, e0⟩ := r_lkI S (c := 0) (by decide) (x := x) (f := if lkO (zh_i h 212) 1 x then nI 1 else if lkO (zh_i h 212) 2 x then nI 2 else -4) (u := v1)
  rw [e0, b149_5, if_pos (by decide), b149_63]
  rfl
/-- whether a node has a key -/
def hkF (s : Nat → Int32) (n : Nat) (key : Int32) : Nat → Bool
  | 0 => false
  | m + 1 => hkF s n key m || decide (s (13 * n + (5 + m)) = key)
theorem zi_bI_t : zi_bI true = 1 := rfl
theorem zi_bI_f : zi_bI false = 0 := rfl
theorem bI_01 (b : Bool) : zi_bI b = 0 ∨ zi_bI b = 1 := by cases b <;> simp [zi_bI]
theorem r_hasL (S : Sh h) {n m : Nat} (hn : n < 24) (hm : m ≤ 4) (em : zh_i h 212 (13 * n + 1) = nI m) {key : Int32} : ∀ d i, i + d = m → zv 2 150 5 [.ref 211, .int (nI n), .int key, .int (zi_bI (hkF (zh_i h 212) n key i)), .int (nI i)] [] h = some (some (.int (zi_bI (hkF (zh_i h 212) n key m))), h) := by
  have g0 : (211 : Nat) < zh_n h := by rw [S.n]; decide
  have g1 : (zh_k h 211).1 = 8 := by rw [S.k, kx_211]
  intro d
  induction d with
  | zero =>
    intro i hi
    have e : i = m := by omega
    subst e
    rw [b150_5 g0 g1, r_of1 S hn]
    simp only [Option.bind_some, Option.toList_some, List.cons_append, List.nil_append]
    rw [b150_13, em, if_neg (nI_nlt (Nat.le_refl _) (by omega)), b150_45 (bI_01 _)]
  | succ d ih =>
    intro i hi
    have e5 : (5 : Int32) + nI i = nI (5 + i) := nI_add 5 i
    rw [b150_5 g0 g1, r_of1 S hn]
    simp only [Option.bind_some, Option.toList_some, List.cons_append, List.nil_append]
    rw [b150_13, em, if_pos (nI_lt (by omega) (by omega)), b150_16]
    have key9 : zv 2 150 38 [.ref 211, .int (nI n), .int key, .int (zi_bI (hkF (zh_i h 212) n key i)), .int (nI i)] [.int (zi_bI (hkF (zh_i h 212) n key (i + 1)))] h = some (some (.int (zi_bI (hkF (zh_i h 212) n key m))), h) := by
      rw [b150_38, nI_1]
      exact ih (i + 1) (by omega)
    cases hb : hkF (zh_i h 212) n key i with
    | true =>
      have hs : hkF (zh_i h 212) n key (i + 1) = true := by simp [hkF, hb]
      rw [hs, hb] at key9
      rw [if_neg (by decide), b150_33]
      exact key9
    | false =>
      rw [if_pos (show zi_bI false = 0 from rfl), b150_20 g0 g1, e5, r_of S hn (by omega)]
      simp only [Option.bind_some, Option.toList_some, List.cons_append, List.nil_append]
      rw [b150_29]
      by_cases hk : zh_i h 212 (13 * n + (5 + i)) = key
      · have hs : hkF (zh_i h 212) n key (i + 1) = true := by simp [hkF, hk]
        rw [hs, hb] at key9
        rw [if_pos hk, b150_33]
        exact key9
      · have hs : hkF (zh_i h 212) n key (i + 1) = false := by simp [hkF, hb, hk]
        rw [hs, hb] at key9
        rw [if_neg hk, b150_37]
        exact key9
theorem r_has (S : Sh h) {n m : Nat} (hn : n < 24) (hm : m ≤ 4) (em : zh_i h 212 (13 * n + 1) = nI m) {key : Int32} {u3 u4 : Value} : zv 2 150 0 [.ref 211, .int (nI n), .int key, u3, u4] [] h = some (some (.int (zi_bI (hkF (zh_i h 212) n key m))), h) := by
  rw [b150_0]
  exact r_hasL S hn hm em m 0 (by omega)
/-- whether a key is there -/
def thF (s : Nat → Int32) (key : Int32) : Nat → Bool
  | 0 => false
  | n + 1 => thF s key n || (decide (s (13 * n) = 0) && (decide (s (13 * n + 4) = 0) && hkF s n key (s (13 * n + 1)).toNatClampNeg))
theorem r_thL (S : Sh h) {N : Nat} (hN : N ≤ 24) (eN : zh_i h 212 312 = nI N) (hm : ∀ n, n < N → ∃ m, m ≤ 4 ∧ zh_i h 212 (13 * n + 1) = nI m) {key : Int32} : ∀ d i, i + d = N → zv 3 151 4 [.ref 211, .int key, .int (zi_bI (thF (zh_i h 212) key i)), .int (nI i)] [] h = some (some (.int (zi_bI (thF (zh_i h 212) key N))), h) := by
  have g0 : (211 : Nat) < zh_n h := by rw [S.n]; decide
  have g1 : (zh_k h 211).1 = 8 := by rw [S.k, kx_211]
  have r0 := r_r0 S
  intro d
  induction d with
  | zero =>
    intro i hi
    have e : i = N := by omega
    subst e
    rw [b151_4 g0 g1 (by rw [r0, zq_rf]) (by rw [r0, zq_rf, S.n]; decide) (by rw [r0, zq_rf, S.k, kx_212]; decide) (by rw [r0, zq_rf, S.k, kx_212]), r0, zq_rf, eN, if_neg (nI_nlt (Nat.le_refl _) (by omega)), b151_59, r_flag]
    simp only [Option.bind_some, Option.toList_some, List.cons_append, List.nil_append]
    rw [b151_63]
    cases thF (zh_i h 212) key i <;> rfl
  | succ d ih =>
    intro i hi
    obtain ⟨m, hm4, em⟩ := hm i (by omega)
    rw [b151_4 g0 g1 (by rw [r0, zq_rf]) (by rw [r0, zq_rf, S.n]; decide) (by rw [r0, zq_rf, S.k, kx_212]; decide) (by rw [r0, zq_rf, S.k, kx_212]), r0, zq_rf, eN, if_pos (nI_lt (by omega) (by omega)), b151_16]
    have key9 : zv 3 151 52 [.ref 211, .int key, .int (zi_bI (thF (zh_i h 212) key i)), .int (nI i)] [.int (zi_bI (thF (zh_i h 212) key (i + 1)))] h = some (some (.int (zi_bI (thF (zh_i h 212) key N))), h) := by
      rw [b151_52, nI_1]
      exact ih (i + 1) (by omega)
    cases hb : thF (zh_i h 212) key i with
    | true =>
      have hs : thF (zh_i h 212) key (i + 1) = true := by simp [thF, hb]
      rw [hs, hb] at key9
      rw [if_neg (by decide), b151_47]
      exact key9
    | false =>
      rw [if_pos (show zi_bI false = 0 from rfl), b151_20 g0 g1, r_of0 S (by omega)]
      simp only [Option.bind_some, Option.toList_some, List.cons_append, List.nil_append]
      rw [b151_26]
      by_cases h0 : zh_i h 212 (13 * i) = 0
      · rw [if_pos h0, b151_29 g0 g1, r_of4 S (by omega)]
        simp only [Option.bind_some, Option.toList_some, List.cons_append, List.nil_append]
        rw [b151_35]
        by_cases h4 : zh_i h 212 (13 * i + 4) = 0
        · rw [if_pos h4, b151_38 g0 g1, r_has S (by omega) hm4 em]
          simp only [Option.bind_some, Option.toList_some, List.cons_append, List.nil_append]
          rw [b151_44]
          have ec : (zh_i h 212 (13 * i + 1)).toNatClampNeg = m := by rw [em, nI_clamp (by omega)]
          cases hk : hkF (zh_i h 212) i key m with
          | true =>
            have hs : thF (zh_i h 212) key (i + 1) = true := by simp [thF, h0, h4, ec, hk]
            rw [hs, hb] at key9
            rw [if_neg (by decide), b151_47]
            exact key9
          | false =>
            have hs : thF (zh_i h 212) key (i + 1) = false := by simp [thF, hb, ec, hk]
            rw [hs, hb] at key9
            rw [if_pos (show zi_bI false = 0 from rfl), b151_51]
            exact key9
        · have hs : thF (zh_i h 212) key (i + 1) = false := by simp [thF, hb, h4]
          rw [hs, hb] at key9
          rw [if_neg h4, b151_51]
          exact key9
      · have hs : thF (zh_i h 212) key (i + 1) = false := by simp [thF, hb, h0]
        rw [hs, hb] at key9
        rw [if_neg h0, b151_51]
        exact key9
theorem r_th (S : Sh h) {N : Nat} (hN : N ≤ 24) (eN : zh_i h 212 312 = nI N) (hm : ∀ n, n < N → ∃ m, m ≤ 4 ∧ zh_i h 212 (13 * n + 1) = nI m) {key : Int32} {u2 u3 : Value} : zv 3 151 0 [.ref 211, .int key, u2, u3] [] h = some (some (.int (zi_bI (thF (zh_i h 212) key N))), h) := by
  rw [b151_0]
  exact r_thL S hN eN hm N 0 (by omega)
/-- the first entry whose key is no less -/
theorem r_ef (S : Sh h) {n j : Nat} (hn : n < 24) (hj : j < 8) {key : Int32} (hlt : ∀ i, i < j → zh_i h 212 (13 * n + (5 + i)) < key) (hge : ¬ zh_i h 212 (13 * n + (5 + j)) < key) {u3 : Value} : zv 2 152 0 [.ref 211, .int (nI n), .int key, u3] [] h = some (some (.int (nI j)), h) := by
  have g0 : (211 : Nat) < zh_n h := by rw [S.n]; decide
  have g1 : (zh_k h 211).1 = 8 := by rw [S.k, kx_211]
  have loop : ∀ d i, i + d = j → zv 2 152 2 [.ref 211, .int (nI n), .int key, .int (nI i)] [] h = some (some (.int (nI j)), h) := by
    intro d
    induction d with
    | zero =>
      intro i hi
      have e : i = j := by omega
      subst e
      rw [b152_2 g0 g1, show (5 : Int32) + nI i = nI (5 + i) from nI_add 5 i, r_of S hn (by omega)]
      simp only [Option.bind_some, Option.toList_some, List.cons_append, List.nil_append]
      rw [b152_10, if_neg hge, b152_20]
    | succ d ih =>
      intro i hi
      rw [b152_2 g0 g1, show (5 : Int32) + nI i = nI (5 + i) from nI_add 5 i, r_of S hn (by omega)]
      simp only [Option.bind_some, Option.toList_some, List.cons_append, List.nil_append]
      rw [b152_10, if_pos (hlt i (by omega)), b152_14, nI_1]
      exact ih (i + 1) (by omega)
  rw [b152_0]
  exact loop j 0 (by omega)
end R20
end
section
/-! THE REFERENCE'S MEMORY in its steps: the row 212, and what it scratches (rows 215, 216, its field 5, the row 217) -/
abbrev zQs : Type := (Nat → Int32) × (Nat → Int32) × Int32 × (Nat → Bool)
def zQ (h : zi_Hp) (q : zQs) (s : Nat → Int32) : zi_Hp := (zh_n h, zh_s h, zh_k h, fun b j => if b = 212 then s j else if b = 215 then q.1 j else if b = 216 then q.2.1 j else if b = 211 ∧ j = 5 then q.2.2.1 else zh_i h b j, fun b j => if b = 217 then q.2.2.2 j else zh_b h b j, zh_l h, zh_r h, zh_L h, zh_x h)
/-- a number becomes another -/
def up (s : Nat → Int32) (k : Nat) (v : Int32) : Nat → Int32 := fun j => if j = k then v else s j
theorem up_s (s : Nat → Int32) (k : Nat) (v : Int32) : up s k v k = v := if_pos rfl
theorem up_n (s : Nat → Int32) {k j : Nat} (v : Int32) (hj : j ≠ k) : up s k v j = s j := if_neg hj
section RQ
variable {h : zi_Hp} {q : zQs} {s : Nat → Int32}
theorem zQ_n : zh_n (zQ h q s) = zh_n h := Eq.trans rfl rfl
theorem zQ_k (b : Nat) : zh_k (zQ h q s) b = zh_k h b := Eq.trans rfl rfl
theorem zQ_r (b j : Nat) : zh_r (zQ h q s) b j = zh_r h b j := Eq.trans rfl rfl
theorem zQ_Sh : Sh (zQ h q s) = Sh h := Eq.trans rfl rfl
theorem zQ_S (S : Sh h) : Sh (zQ h q s) := S
theorem zQ_212 (j : Nat) : zh_i (zQ h q s) 212 j = s j := Eq.trans rfl rfl
theorem zQ_row : zh_i (zQ h q s) 212 = s := Eq.trans rfl rfl
theorem zQ_215 (j : Nat) : zh_i (zQ h q s) 215 j = q.1 j := Eq.trans rfl rfl
theorem zQ_216 (j : Nat) : zh_i (zQ h q s) 216 j = q.2.1 j := Eq.trans rfl rfl
theorem zQ_2115 : zh_i (zQ h q s) 211 5 = q.2.2.1 := Eq.trans rfl rfl
theorem zQ_217 (j : Nat) : zh_b (zQ h q s) 217 j = q.2.2.2 j := Eq.trans rfl rfl
theorem zQ_211 {j : Nat} (hj : j ≠ 5) : zh_i (zQ h q s) 211 j = zh_i h 211 j := by
  show (if (211 : Nat) = 212 then s j else if (211 : Nat) = 215 then q.1 j else if (211 : Nat) = 216 then q.2.1 j else if (211 : Nat) = 211 ∧ j = 5 then q.2.2.1 else zh_i h 211 j) = _
  rw [if_neg (by decide), if_neg (by decide), if_neg (by decide), if_neg (fun w => hj w.2)]
theorem zQ_o {a : Nat} (j : Nat) (h1 : a ≠ 211) (h2 : a ≠ 212) (h3 : a ≠ 215) (h4 : a ≠ 216) : zh_i (zQ h q s) a j = zh_i h a j := by
  show (if a = 212 then s j else if a = 215 then q.1 j else if a = 216 then q.2.1 j else if a = 211 ∧ j = 5 then q.2.2.1 else zh_i h a j) = _
  rw [if_neg h2, if_neg h3, if_neg h4, if_neg (fun w => h1 w.1)]
theorem zQ_bo {a : Nat} (j : Nat) (h1 : a ≠ 217) : zh_b (zQ h q s) a j = zh_b h a j := by
  show (if a = 217 then q.2.2.2 j else zh_b h a j) = _
  rw [if_neg h1]
theorem zQ_l (b j : Nat) : zh_l (zQ h q s) b j = zh_l h b j := Eq.trans rfl rfl
theorem zQ_id : zQ h (zh_i h 215, zh_i h 216, zh_i h 211 5, zh_b h 217) (zh_i h 212) = h := by
  refine zh_ext rfl rfl (fun _ => rfl) (fun b j => ?_) (fun b j => ?_) (fun _ _ => rfl) (fun _ _ => rfl) rfl rfl
  · show (if b = 212 then zh_i h 212 j else if b = 215 then zh_i h 215 j else if b = 216 then zh_i h 216 j else if b = 211 ∧ j = 5 then zh_i h 211 5 else zh_i h b j) = zh_i h b j
    by_cases h1 : b = 212
    · rw [if_pos h1, h1]
    · rw [if_neg h1]
      by_cases h2 : b = 215
      · rw [if_pos h2, h2]
      · rw [if_neg h2]
        by_cases h3 : b = 216
        · rw [if_pos h3, h3]
        · rw [if_neg h3]
          by_cases h4 : b = 211 ∧ j = 5
          · rw [if_pos h4, h4.1, h4.2]
          · rw [if_neg h4]
  · show (if b = 217 then zh_b h 217 j else zh_b h b j) = zh_b h b j
    by_cases h1 : b = 217
    · rw [if_pos h1, h1]
    · rw [if_neg h1]
theorem zQ_w (k : Nat) (v : Int32) : zh_wi (zQ h q s) 212 k v = zQ h q (up s k v) := by
  refine zh_ext rfl rfl (fun _ => rfl) (fun b j => ?_) (fun _ _ => rfl) (fun _ _ => rfl) (fun _ _ => rfl) rfl rfl
  rw [hp_i_wi]
  by_cases h1 : b = 212
  · subst h1
    rw [zQ_212, zQ_212, up]
    by_cases h2 : j = k
    · rw [if_pos ⟨rfl, h2⟩, if_pos h2]
    · rw [if_neg (fun w => h2 w.2), if_neg h2]
  · rw [if_neg (fun w => h1 w.1)]
    show (if b = 212 then s j else if b = 215 then q.1 j else if b = 216 then q.2.1 j else if b = 211 ∧ j = 5 then q.2.2.1 else zh_i h b j) = (if b = 212 then up s k v j else if b = 215 then q.1 j else if b = 216 then q.2.1 j else if b = 211 ∧ j = 5 then q.2.2.1 else zh_i h b j)
    rw [if_neg h1, if_neg h1]
theorem zQ_wk (k : Nat) (v : Int32) : zh_wi (zQ h q s) 215 k v = zQ h (up q.1 k v, q.2) s := by
  refine zh_ext rfl rfl (fun _ => rfl) (fun b j => ?_) (fun _ _ => rfl) (fun _ _ => rfl) (fun _ _ => rfl) rfl rfl
  rw [hp_i_wi]
  by_cases h1 : b = 215
  · subst h1
    rw [zQ_215, zQ_215]
    show _ = up q.1 k v j
    rw [up]
    by_cases h2 : j = k
    · rw [if_pos ⟨rfl, h2⟩, if_pos h2]
    · rw [if_neg (fun w => h2 w.2), if_neg h2]
  · rw [if_neg (fun w => h1 w.1)]
    show (if b = 212 then s j else if b = 215 then q.1 j else if b = 216 then q.2.1 j else if b = 211 ∧ j = 5 then q.2.2.1 else zh_i h b j) = (if b = 212 then s j else if b = 215 then up q.1 k v j else if b = 216 then q.2.1 j else if b = 211 ∧ j = 5 then q.2.2.1 else zh_i h b j)
    rw [if_neg h1, if_neg h1]
theorem zQ_wc (k : Nat) (v : Int32) : zh_wi (zQ h q s) 216 k v = zQ h (q.1, up q.2.1 k v, q.2.2) s := by
  refine zh_ext rfl rfl (fun _ => rfl) (fun b j => ?_) (fun _ _ => rfl) (fun _ _ => rfl) (fun _ _ => rfl) rfl rfl
  rw [hp_i_wi]
  by_cases h1 : b = 216
  · subst h1
    rw [zQ_216, zQ_216]
    show _ = up q.2.1 k v j
    rw [up]
    by_cases h2 : j = k
    · rw [if_pos ⟨rfl, h2⟩, if_pos h2]
    · rw [if_neg (fun w => h2 w.2), if_neg h2]
  · rw [if_neg (fun w => h1 w.1)]
    show (if b = 212 then s j else if b = 215 then q.1 j else if b = 216 then q.2.1 j else if b = 211 ∧ j = 5 then q.2.2.1 else zh_i h b j) = (if b = 212 then s j else if b = 215 then q.1 j else if b = 216 then up q.2.1 k v j else if b = 211 ∧ j = 5 then q.2.2.1 else zh_i h b j)
    rw [if_neg h1, if_neg h1]
theorem zQ_wm (v : Int32) : zh_wi (zQ h q s) 211 5 v = zQ h (q.1, q.2.1, v, q.2.2.2) s := by
  refine zh_ext rfl rfl (fun _ => rfl) (fun b j => ?_) (fun _ _ => rfl) (fun _ _ => rfl) (fun _ _ => rfl) rfl rfl
  rw [hp_i_wi]
  show (if b = 211 ∧ j = 5 then v else if b = 212 then s j else if b = 215 then q.1 j else if b = 216 then q.2.1 j else if b = 211 ∧ j = 5 then q.2.2.1 else zh_i h b j) = (if b = 212 then s j else if b = 215 then q.1 j else if b = 216 then q.2.1 j else if b = 211 ∧ j = 5 then v else zh_i h b j)
  by_cases h1 : b = 211 ∧ j = 5
  · rw [if_pos h1, if_neg (by omega), if_neg (by omega), if_neg (by omega), if_pos h1]
  · rw [if_neg h1, if_neg h1, if_neg h1]
theorem zQ_wb (k : Nat) (v : Bool) : zh_wb (zQ h q s) 217 k v = zQ h (q.1, q.2.1, q.2.2.1, fun j => if j = k then v else q.2.2.2 j) s := by
  refine zh_ext rfl rfl (fun _ => rfl) (fun _ _ => rfl) (fun b j => ?_) (fun _ _ => rfl) (fun _ _ => rfl) rfl rfl
  rw [hp_b_wb]
  show (if b = 217 ∧ j = k then v else if b = 217 then q.2.2.2 j else zh_b h b j) = (if b = 217 then (if j = k then v else q.2.2.2 j) else zh_b h b j)
  by_cases h1 : b = 217
  · rw [if_pos h1, if_pos h1]
    by_cases h2 : j = k
    · rw [if_pos ⟨h1, h2⟩, if_pos h2]
    · rw [if_neg (fun w => h2 w.2), if_neg h2]
  · rw [if_neg h1, if_neg h1, if_neg (fun w => h1 w.1)]
theorem q_of (S : Sh h) {n w : Nat} (hn : n < 24) (hw : w < 13) : zv 1 144 0 [.ref 211, .int (nI n), .int (nI w)] [] (zQ h q s) = some (some (.int (s (13 * n + w))), zQ h q s) := r_of (zQ_S S) hn hw
theorem q_nb (S : Sh h) {n w : Nat} {v : Int32} (hn : n < 24) (hw : w < 13) : zv 1 145 0 [.ref 211, .int (nI n), .int (nI w), .int v] [] (zQ h q s) = some (none, zQ h q (up s (13 * n + w) v)) := by
  rw [r_nb (zQ_S S) hn hw, zQ_w]
theorem q_oc (S : Sh h) {c w : Nat} (hc : c < 3) (hw : w < 24) : zv 1 146 0 [.ref 211, .int (nI c), .int (nI w)] [] (zQ h q s) = some (some (.int (s (315 + 24 * c + w))), zQ h q s) := r_oc (zQ_S S) hc hw
theorem q_cb (S : Sh h) {c w : Nat} {v : Int32} (hc : c < 3) (hw : w < 24) : zv 1 147 0 [.ref 211, .int (nI c), .int (nI w), .int v] [] (zQ h q s) = some (none, zQ h q (up s (315 + 24 * c + w) v)) := by
  rw [r_cb (zQ_S S) hc hw, zQ_w]
theorem q_of0 (S : Sh h) {n : Nat} (hn : n < 24) : zv 1 144 0 [.ref 211, .int (nI n), .int 0] [] (zQ h q s) = some (some (.int (s (13 * n))), zQ h q s) := r_of0 (zQ_S S) hn
theorem q_nb0 (S : Sh h) {n : Nat} {v : Int32} (hn : n < 24) : zv 1 145 0 [.ref 211, .int (nI n), .int 0, .int v] [] (zQ h q s) = some (none, zQ h q (up s (13 * n) v)) := by
  rw [r_nb0 (zQ_S S) hn, zQ_w]
theorem q_of1 (S : Sh h) {n : Nat} (hn : n < 24) : zv 1 144 0 [.ref 211, .int (nI n), .int 1] [] (zQ h q s) = some (some (.int (s (13 * n + 1))), zQ h q s) := r_of1 (zQ_S S) hn
theorem q_nb1 (S : Sh h) {n : Nat} {v : Int32} (hn : n < 24) : zv 1 145 0 [.ref 211, .int (nI n), .int 1, .int v] [] (zQ h q s) = some (none, zQ h q (up s (13 * n + 1) v)) := by
  rw [r_nb1 (zQ_S S) hn, zQ_w]
theorem q_of2 (S : Sh h) {n : Nat} (hn : n < 24) : zv 1 144 0 [.ref 211, .int (nI n), .int 2] [] (zQ h q s) = some (some (.int (s (13 * n + 2))), zQ h q s) := r_of2 (zQ_S S) hn
theorem q_nb2 (S : Sh h) {n : Nat} {v : Int32} (hn : n < 24) : zv 1 145 0 [.ref 211, .int (nI n), .int 2, .int v] [] (zQ h q s) = some (none, zQ h q (up s (13 * n + 2) v)) := by
  rw [r_nb2 (zQ_S S) hn, zQ_w]
theorem q_of3 (S : Sh h) {n : Nat} (hn : n < 24) : zv 1 144 0 [.ref 211, .int (nI n), .int 3] [] (zQ h q s) = some (some (.int (s (13 * n + 3))), zQ h q s) := r_of3 (zQ_S S) hn
theorem q_nb3 (S : Sh h) {n : Nat} {v : Int32} (hn : n < 24) : zv 1 145 0 [.ref 211, .int (nI n), .int 3, .int v] [] (zQ h q s) = some (none, zQ h q (up s (13 * n + 3) v)) := by
  rw [r_nb3 (zQ_S S) hn, zQ_w]
theorem q_of4 (S : Sh h) {n : Nat} (hn : n < 24) : zv 1 144 0 [.ref 211, .int (nI n), .int 4] [] (zQ h q s) = some (some (.int (s (13 * n + 4))), zQ h q s) := r_of4 (zQ_S S) hn
theorem q_nb4 (S : Sh h) {n : Nat} {v : Int32} (hn : n < 24) : zv 1 145 0 [.ref 211, .int (nI n), .int 4, .int v] [] (zQ h q s) = some (none, zQ h q (up s (13 * n + 4) v)) := by
  rw [r_nb4 (zQ_S S) hn, zQ_w]
theorem q_oc0 (S : Sh h) {c : Nat} (hc : c < 3) : zv 1 146 0 [.ref 211, .int (nI c), .int 0] [] (zQ h q s) = some (some (.int (s (315 + 24 * c))), zQ h q s) := r_oc0 (zQ_S S) hc
theorem q_cb0 (S : Sh h) {c : Nat} {v : Int32} (hc : c < 3) : zv 1 147 0 [.ref 211, .int (nI c), .int 0, .int v] [] (zQ h q s) = some (none, zQ h q (up s (315 + 24 * c) v)) := by
  rw [r_cb0 (zQ_S S) hc, zQ_w]
theorem q_oc1 (S : Sh h) {c : Nat} (hc : c < 3) : zv 1 146 0 [.ref 211, .int (nI c), .int 1] [] (zQ h q s) = some (some (.int (s (315 + 24 * c + 1))), zQ h q s) := r_oc1 (zQ_S S) hc
theorem q_cb1 (S : Sh h) {c : Nat} {v : Int32} (hc : c < 3) : zv 1 147 0 [.ref 211, .int (nI c), .int 1, .int v] [] (zQ h q s) = some (none, zQ h q (up s (315 + 24 * c + 1) v)) := by
  rw [r_cb1 (zQ_S S) hc, zQ_w]
theorem q_oc2 (S : Sh h) {c : Nat} (hc : c < 3) : zv 1 146 0 [.ref 211, .int (nI c), .int 2] [] (zQ h q s) = some (some (.int (s (315 + 24 * c + 2))), zQ h q s) := r_oc2 (zQ_S S) hc
theorem q_cb2 (S : Sh h) {c : Nat} {v : Int32} (hc : c < 3) : zv 1 147 0 [.ref 211, .int (nI c), .int 2, .int v] [] (zQ h q s) = some (none, zQ h q (up s (315 + 24 * c + 2) v)) := by
  rw [r_cb2 (zQ_S S) hc, zQ_w]
theorem q_oc3 (S : Sh h) {c : Nat} (hc : c < 3) : zv 1 146 0 [.ref 211, .int (nI c), .int 3] [] (zQ h q s) = some (some (.int (s (315 + 24 * c + 3))), zQ h q s) := r_oc3 (zQ_S S) hc
theorem q_cb3 (S : Sh h) {c : Nat} {v : Int32} (hc : c < 3) : zv 1 147 0 [.ref 211, .int (nI c), .int 3, .int v] [] (zQ h q s) = some (none, zQ h q (up s (315 + 24 * c + 3) v)) := by
  rw [r_cb3 (zQ_S S) hc, zQ_w]
theorem q_oc4 (S : Sh h) {c : Nat} (hc : c < 3) : zv 1 146 0 [.ref 211, .int (nI c), .int 4] [] (zQ h q s) = some (some (.int (s (315 + 24 * c + 4))), zQ h q s) := r_oc4 (zQ_S S) hc
theorem q_cb4 (S : Sh h) {c : Nat} {v : Int32} (hc : c < 3) : zv 1 147 0 [.ref 211, .int (nI c), .int 4, .int v] [] (zQ h q s) = some (none, zQ h q (up s (315 + 24 * c + 4) v)) := by
  rw [r_cb4 (zQ_S S) hc, zQ_w]
theorem q_oc5 (S : Sh h) {c : Nat} (hc : c < 3) : zv 1 146 0 [.ref 211, .int (nI c), .int 5] [] (zQ h q s) = some (some (.int (s (315 + 24 * c + 5))), zQ h q s) := r_oc5 (zQ_S S) hc
theorem q_cb5 (S : Sh h) {c : Nat} {v : Int32} (hc : c < 3) : zv 1 147 0 [.ref 211, .int (nI c), .int 5, .int v] [] (zQ h q s) = some (none, zQ h q (up s (315 + 24 * c + 5) v)) := by
  rw [r_cb5 (zQ_S S) hc, zQ_w]
theorem q_oc6 (S : Sh h) {c : Nat} (hc : c < 3) : zv 1 146 0 [.ref 211, .int (nI c), .int 6] [] (zQ h q s) = some (some (.int (s (315 + 24 * c + 6))), zQ h q s) := r_oc6 (zQ_S S) hc
theorem q_cb6 (S : Sh h) {c : Nat} {v : Int32} (hc : c < 3) : zv 1 147 0 [.ref 211, .int (nI c), .int 6, .int v] [] (zQ h q s) = some (none, zQ h q (up s (315 + 24 * c + 6) v)) := by
  rw [r_cb6 (zQ_S S) hc, zQ_w]
theorem q_oc7 (S : Sh h) {c : Nat} (hc : c < 3) : zv 1 146 0 [.ref 211, .int (nI c), .int 7] [] (zQ h q s) = some (some (.int (s (315 + 24 * c + 7))), zQ h q s) := r_oc7 (zQ_S S) hc
theorem q_cb7 (S : Sh h) {c : Nat} {v : Int32} (hc : c < 3) : zv 1 147 0 [.ref 211, .int (nI c), .int 7, .int v] [] (zQ h q s) = some (none, zQ h q (up s (315 + 24 * c + 7) v)) := by
  rw [r_cb7 (zQ_S S) hc, zQ_w]
theorem q_oc8 (S : Sh h) {c : Nat} (hc : c < 3) : zv 1 146 0 [.ref 211, .int (nI c), .int 8] [] (zQ h q s) = some (some (.int (s (315 + 24 * c + 8))), zQ h q s) := r_oc8 (zQ_S S) hc
theorem q_cb8 (S : Sh h) {c : Nat} {v : Int32} (hc : c < 3) : zv 1 147 0 [.ref 211, .int (nI c), .int 8, .int v] [] (zQ h q s) = some (none, zQ h q (up s (315 + 24 * c + 8) v)) := by
  rw [r_cb8 (zQ_S S) hc, zQ_w]
theorem q_oc9 (S : Sh h) {c : Nat} (hc : c < 3) : zv 1 146 0 [.ref 211, .int (nI c), .int 9] [] (zQ h q s) = some (some (.int (s (315 + 24 * c + 9))), zQ h q s) := r_oc9 (zQ_S S) hc
theorem q_cb9 (S : Sh h) {c : Nat} {v : Int32} (hc : c < 3) : zv 1 147 0 [.ref 211, .int (nI c), .int 9, .int v] [] (zQ h q s) = some (none, zQ h q (up s (315 + 24 * c + 9) v)) := by
  rw [r_cb9 (zQ_S S) hc, zQ_w]
theorem q_oc10 (S : Sh h) {c : Nat} (hc : c < 3) : zv 1 146 0 [.ref 211, .int (nI c), .int 10] [] (zQ h q s) = some (some (.int (s (315 + 24 * c + 10))), zQ h q s) := r_oc10 (zQ_S S) hc
theorem q_cb10 (S : Sh h) {c : Nat} {v : Int32} (hc : c < 3) : zv 1 147 0 [.ref 211, .int (nI c), .int 10, .int v] [] (zQ h q s) = some (none, zQ h q (up s (315 + 24 * c + 10) v)) := by
  rw [r_cb10 (zQ_S S) hc, zQ_w]
theorem q_oc11 (S : Sh h) {c : Nat} (hc : c < 3) : zv 1 146 0 [.ref 211, .int (nI c), .int 11] [] (zQ h q s) = some (some (.int (s (315 + 24 * c + 11))), zQ h q s) := r_oc11 (zQ_S S) hc
theorem q_cb11 (S : Sh h) {c : Nat} {v : Int32} (hc : c < 3) : zv 1 147 0 [.ref 211, .int (nI c), .int 11, .int v] [] (zQ h q s) = some (none, zQ h q (up s (315 + 24 * c + 11) v)) := by
  rw [r_cb11 (zQ_S S) hc, zQ_w]
theorem q_lk (S : Sh h) {x : Int32} {u2 u3 u4 : Value} : zv 2 149 0 [.ref 211, .int x, u2, u3, u4] [] (zQ h q s) = some (some (.int (lkB s x)), zQ h q s) := r_lk (zQ_S S)
theorem q_has (S : Sh h) {n m : Nat} (hn : n < 24) (hm : m ≤ 4) (em : s (13 * n + 1) = nI m) {key : Int32} {u3 u4 : Value} : zv 2 150 0 [.ref 211, .int (nI n), .int key, u3, u4] [] (zQ h q s) = some (some (.int (zi_bI (hkF s n key m))), zQ h q s) := r_has (zQ_S S) hn hm em
theorem q_th (S : Sh h) {N : Nat} (hN : N ≤ 24) (eN : s 312 = nI N) (hm : ∀ n, n < N → ∃ m, m ≤ 4 ∧ s (13 * n + 1) = nI m) {key : Int32} {u2 u3 : Value} : zv 3 151 0 [.ref 211, .int key, u2, u3] [] (zQ h q s) = some (some (.int (zi_bI (thF s key N))), zQ h q s) := r_th (zQ_S S) hN eN hm
theorem q_ef (S : Sh h) {n j : Nat} (hn : n < 24) (hj : j < 8) {key : Int32} (hlt : ∀ i, i < j → s (13 * n + (5 + i)) < key) (hge : ¬ s (13 * n + (5 + j)) < key) {u3 : Value} : zv 2 152 0 [.ref 211, .int (nI n), .int key, u3] [] (zQ h q s) = some (some (.int (nI j)), zQ h q s) := r_ef (zQ_S S) hn hj hlt hge
theorem q_g0 (S : Sh h) : (211 : Nat) < zh_n (zQ h q s) := by rw [zQ_n, S.n]; decide
theorem q_g1 (S : Sh h) : (zh_k (zQ h q s) 211).1 = 8 := by rw [zQ_k, S.k, kx_211]
theorem q_r0 (S : Sh h) : zh_r (zQ h q s) 211 0 = .ref 212 := by rw [zQ_r, S.r, rx_211_0]
theorem q_r3 (S : Sh h) : zh_r (zQ h q s) 211 3 = .ref 215 := by rw [zQ_r, S.r, rx_211_3]
theorem q_r4 (S : Sh h) : zh_r (zQ h q s) 211 4 = .ref 216 := by rw [zQ_r, S.r, rx_211_4]
/-- bigAdds -/
theorem q_ba (S : Sh h) {m : Nat} (hm : m < 5) (em : q.2.2.1 = nI m) {key child : Int32} : zv 1 153 0 [.ref 211, .int key, .int child] [] (zQ h q s) = some (none, zQ h (up q.1 m key, up q.2.1 m child, nI (m + 1), q.2.2.2) s) := by
  have e5 : zh_i (zQ h q s) 211 5 = nI m := em
  rw [b153_0 (q_g0 S) (q_g1 S) (by rw [q_r3 S, zq_rf]) (by rw [q_r3 S, zq_rf, zQ_n, S.n]; decide) (by rw [q_r3 S, zq_rf, zQ_k, S.k, kx_215, e5]; exact zj_n hm (by decide)) (by rw [q_r3 S, zq_rf, zQ_k, S.k, kx_215]) (by rw [q_r4 S, zq_rf]), q_r3 S, q_r4 S, zq_rf, zq_rf, e5, nI_clamp (by omega), zQ_wk]
  have e6 : zh_i (zQ h (up q.1 m key, q.2) s) 211 5 = nI m := em
  rw [b153_15 (q_g0 S) (q_g1 S) (by rw [zQ_n, S.n]; decide) (by rw [zQ_k, S.k, kx_216, e6]; exact zj_n hm (by decide)) (by rw [zQ_k, S.k, kx_216]), e6, nI_clamp (by omega), zQ_wc]
  have e7 : zh_i (zQ h ((up q.1 m key, q.2).1, up (up q.1 m key, q.2).2.1 m child, (up q.1 m key, q.2).2.2) s) 211 5 = nI m := em
  rw [b153_22 (q_g0 S) (q_g1 S) (q_g0 S) (q_g1 S), e7, nI_1, zQ_wm]
/-- a node has what big has, from one to another -/
def nP (s : Nat → Int32) (n : Nat) (g gc : Nat → Int32) (k : Nat) : Nat → Int32 := fun j => if 13 * n + 5 ≤ j ∧ j < 13 * n + 5 + k then g (j - (13 * n + 5)) else if 13 * n + 9 ≤ j ∧ j < 13 * n + 9 + k then gc (j - (13 * n + 9)) else s j
theorem nP_0 (s : Nat → Int32) (n : Nat) (g gc : Nat → Int32) : nP s n g gc 0 = s := by
  funext j
  rw [nP, if_neg (fun w => by omega), if_neg (fun w => by omega)]
theorem nP_s (s : Nat → Int32) (n : Nat) (g gc : Nat → Int32) {k : Nat} (hk : k < 4) : up (up (nP s n g gc k) (13 * n + (5 + k)) (g k)) (13 * n + (9 + k)) (gc k) = nP s n g gc (k + 1) := by
  funext j
  by_cases h1 : j = 13 * n + (9 + k)
  · subst h1
    rw [up_s, nP, if_neg (by omega), if_pos (by omega), show 13 * n + (9 + k) - (13 * n + 9) = k by omega]
  · rw [up_n _ _ h1]
    by_cases h2 : j = 13 * n + (5 + k)
    · subst h2
      rw [up_s, nP, if_pos (by omega), show 13 * n + (5 + k) - (13 * n + 5) = k by omega]
    · rw [up_n _ _ h2, nP, nP]
      by_cases h3 : 13 * n + 5 ≤ j ∧ j < 13 * n + 5 + k
      · rw [if_pos h3, if_pos (by omega)]
      · have h3' : ¬ (13 * n + 5 ≤ j ∧ j < 13 * n + 5 + (k + 1)) := by omega
        rw [if_neg h3, if_neg h3']
        by_cases h4 : 13 * n + 9 ≤ j ∧ j < 13 * n + 9 + k
        · have h4' : 13 * n + 9 ≤ j ∧ j < 13 * n + 9 + (k + 1) := by omega
          rw [if_pos h4, if_pos h4']
        · have h4' : ¬ (13 * n + 9 ≤ j ∧ j < 13 * n + 9 + (k + 1)) := by omega
          rw [if_neg h4, if_neg h4']
def nH (s : Nat → Int32) (n : Nat) (g gc : Nat → Int32) (k : Nat) : Nat → Int32 := up (nP s n g gc k) (13 * n + 1) (nI k)
theorem nI_sub {a b : Nat} (hab : b ≤ a) : nI a - nI b = nI (a - b) := by
  have e : nI a = nI (a - b) + nI b := by rw [nI_add]; congr 1; omega
  rw [e]
  exact Int32.add_sub_cancel _ _
theorem q_nh (S : Sh h) {n fr to : Nat} (hn : n < 24) (hf : fr ≤ to) (ht : to ≤ 5) (hd : to - fr ≤ 4) {u4 : Value} : zv 2 154 0 [.ref 211, .int (nI n), .int (nI fr), .int (nI to), u4] [] (zQ h q s) = some (none, zQ h q (nH s n (fun i => q.1 (fr + i)) (fun i => q.2.1 (fr + i)) (to - fr))) := by
  have loop : ∀ d i, fr + i + d = to → zv 2 154 3 [.ref 211, .int (nI n), .int (nI fr), .int (nI to), .int (nI (fr + i))] [] (zQ h q (nP s n (fun i => q.1 (fr + i)) (fun i => q.2.1 (fr + i)) i)) = some (none, zQ h q (nH s n (fun i => q.1 (fr + i)) (fun i => q.2.1 (fr + i)) (to - fr))) := by
    intro d
    induction d with
    | zero =>
      intro i hi
      have e : i = to - fr := by omega
      subst e
      rw [b154_3, if_neg (nI_nlt (by omega) (by omega)), b154_52 (q_g0 S) (q_g1 S), nI_sub hf, q_nb1 S hn]
      simp only [Option.bind_some, Option.toList_none, List.nil_append]
      rw [b154_61, nH]
    | succ d ih =>
      intro i hi
      have hin5 : ∀ {q2 : zQs} {s2 : Nat → Int32}, ¬ (nI (fr + i) < 0 ∨ (zh_k (zQ h q2 s2) 215).2 ≤ (nI (fr + i)).toNatClampNeg) := by
        intro q2 s2
        rw [zQ_k, S.k, kx_215]
        exact zj_n (by omega) (by decide)
      have hin6 : ∀ {q2 : zQs} {s2 : Nat → Int32}, ¬ (nI (fr + i) < 0 ∨ (zh_k (zQ h q2 s2) 216).2 ≤ (nI (fr + i)).toNatClampNeg) := by
        intro q2 s2
        rw [zQ_k, S.k, kx_216]
        exact zj_n (by omega) (by decide)
      have e5 : (5 : Int32) + nI (fr + i) - nI fr = nI (5 + i) := by
        rw [show (5 : Int32) + nI (fr + i) = nI (5 + (fr + i)) from nI_add 5 _, nI_sub (by omega)]
        congr 1
        omega
      have e9 : (9 : Int32) + nI (fr + i) - nI fr = nI (9 + i) := by
        rw [show (9 : Int32) + nI (fr + i) = nI (9 + (fr + i)) from nI_add 9 _, nI_sub (by omega)]
        congr 1
        omega
      rw [b154_3, if_pos (nI_lt (by omega) (by omega)), b154_9 (q_g0 S) (q_g1 S) (by rw [q_r3 S, zq_rf]) (by rw [q_r3 S, zq_rf, zQ_n, S.n]; decide) (by rw [q_r3 S, zq_rf]; exact hin5) (by rw [q_r3 S, zq_rf, zQ_k, S.k, kx_215]), q_r3 S, zq_rf, e5, q_nb S hn (by omega), nI_clamp (by omega), zQ_215]
      simp only [Option.bind_some, Option.toList_none, List.nil_append]
      rw [b154_27 (q_g0 S) (q_g1 S) (by rw [q_r4 S, zq_rf]) (by rw [q_r4 S, zq_rf, zQ_n, S.n]; decide) (by rw [q_r4 S, zq_rf]; exact hin6) (by rw [q_r4 S, zq_rf, zQ_k, S.k, kx_216]), q_r4 S, zq_rf, e9, q_nb S hn (by omega), nI_clamp (by omega), zQ_216]
      simp only [Option.bind_some, Option.toList_none, List.nil_append]
      have eP := nP_s s n (fun i => q.1 (fr + i)) (fun i => q.2.1 (fr + i)) (k := i) (by omega)
      rw [eP, b154_46, nI_1, show fr + i + 1 = fr + (i + 1) by omega]
      exact ih (i + 1) (by omega)
  have := loop (to - fr) 0 (by omega)
  rw [nP_0] at this
  rw [b154_0]
  exact this
end RQ
end
section
/-! THE REFERENCE'S SMALL DOINGS -/
section UPS
variable (s : Nat → Int32) (v : Int32) {n m c d w x : Nat}
theorem uc_cc (hx : x ≠ w) : up s (315 + 24 * c + w) v (315 + 24 * c + x) = s (315 + 24 * c + x) := up_n _ _ (by omega)
theorem uc_c0 (hw : w ≠ 0) : up s (315 + 24 * c + w) v (315 + 24 * c) = s (315 + 24 * c) := up_n _ _ (by omega)
theorem uc_0c (hx : x ≠ 0) : up s (315 + 24 * c) v (315 + 24 * c + x) = s (315 + 24 * c + x) := up_n _ _ (by omega)
theorem uc_n (hn : n < 24) (hx : x < 13) : up s (315 + 24 * c + w) v (13 * n + x) = s (13 * n + x) := up_n _ _ (by omega)
theorem uc_n0 (hn : n < 24) : up s (315 + 24 * c + w) v (13 * n) = s (13 * n) := up_n _ _ (by omega)
theorem uc0_n (hn : n < 24) (hx : x < 13) : up s (315 + 24 * c) v (13 * n + x) = s (13 * n + x) := up_n _ _ (by omega)
theorem uc0_n0 (hn : n < 24) : up s (315 + 24 * c) v (13 * n) = s (13 * n) := up_n _ _ (by omega)
theorem uc_g {k : Nat} (hk : k < 315) : up s (315 + 24 * c + w) v k = s k := up_n _ _ (by omega)
theorem uc0_g {k : Nat} (hk : k < 315) : up s (315 + 24 * c) v k = s k := up_n _ _ (by omega)
theorem un_nn (hx : x ≠ w) : up s (13 * n + w) v (13 * n + x) = s (13 * n + x) := up_n _ _ (by omega)
theorem un_n0 (hw : w ≠ 0) : up s (13 * n + w) v (13 * n) = s (13 * n) := up_n _ _ (by omega)
theorem un_0n (hx : x ≠ 0) : up s (13 * n) v (13 * n + x) = s (13 * n + x) := up_n _ _ (by omega)
theorem un_c (hn : n < 24) (hw : w < 13) : up s (13 * n + w) v (315 + 24 * c + x) = s (315 + 24 * c + x) := up_n _ _ (by omega)
theorem un_c0 (hn : n < 24) (hw : w < 13) : up s (13 * n + w) v (315 + 24 * c) = s (315 + 24 * c) := up_n _ _ (by omega)
theorem un0_c (hn : n < 24) : up s (13 * n) v (315 + 24 * c + x) = s (315 + 24 * c + x) := up_n _ _ (by omega)
theorem un0_c0 (hn : n < 24) : up s (13 * n) v (315 + 24 * c) = s (315 + 24 * c) := up_n _ _ (by omega)
theorem un_g {k : Nat} (hn : n < 24) (hw : w < 13) (hk : 312 ≤ k) : up s (13 * n + w) v k = s k := up_n _ _ (by omega)
theorem un0_g {k : Nat} (hn : n < 24) (hk : 312 ≤ k) : up s (13 * n) v k = s k := up_n _ _ (by omega)
theorem ug_n {k : Nat} (hk : 312 ≤ k) (hn : n < 24) (hx : x < 13) : up s k v (13 * n + x) = s (13 * n + x) := up_n _ _ (by omega)
theorem ug_n0 {k : Nat} (hk : 312 ≤ k) (hn : n < 24) : up s k v (13 * n) = s (13 * n) := up_n _ _ (by omega)
theorem ug_c {k : Nat} (hk : k < 315) : up s k v (315 + 24 * c + x) = s (315 + 24 * c + x) := up_n _ _ (by omega)
theorem ug_c0 {k : Nat} (hk : k < 315) : up s k v (315 + 24 * c) = s (315 + 24 * c) := up_n _ _ (by omega)
theorem ug_g {k j : Nat} (hj : j ≠ k) : up s k v j = s j := up_n _ _ hj
end UPS
section R20C
variable {h : zi_Hp} {q : zQs} {s : Nat → Int32}
def nnF (s : Nat → Int32) (v : Nat) (lv hi rt : Int32) : Nat → Int32 := up (up (up (up (up s 312 (nI (v + 1))) (13 * v) lv) (13 * v + 2) hi) (13 * v + 3) rt) (13 * v + 4) 0
theorem q_nn (S : Sh h) {v : Nat} (hv : v < 24) (e : s 312 = nI v) {lv hi rt : Int32} {u : Value} : zv 2 155 0 [.ref 211, .int lv, .int hi, .int rt, u] [] (zQ h q s) = some (some (.int (nI v)), zQ h q (nnF s v lv hi rt)) := by
  simp +decide only [b155_0, b155_30, b155_38, b155_46, b155_54, q_nb0, q_nb2, q_nb3, q_nb4, S, hv, e, zQ_n, zQ_k, zQ_r, zQ_w, zQ_212, S.n, S.k, S.r, kx_211, kx_212, rx_211_0, nI_1, nnF, Option.bind_some, Option.toList_some, Option.toList_none, List.cons_append, List.nil_append, List.append_nil, zq_rf, or_false, false_or, or_true, true_or, not_false_eq_true, not_true_eq_false, and_true, true_and, and_false, false_and, and_self, or_self, ite_true, ite_false, ↓reduceIte, Int32.reduceAdd, Int32.reduceSub, Int32.reduceMul, Int32.reduceDiv, Int32.reduceLT, Int32.reduceLE, Int32.reduceToNatClampNeg, Int32.reduceToInt, Int32.reduceOfNat, Nat.reduceAdd, Nat.reduceSub, Nat.reduceMul, Nat.reduceLeDiff, Nat.reduceEqDiff]
def poF (s : Nat → Int32) (c t : Nat) (mid what dead : Int32) : Nat → Int32 := up (up (up (up (up (up s (315 + 24 * c + 8) mid) (315 + 24 * c + 9) what) (315 + 24 * c + 10) (nI t)) (315 + 24 * c + 11) dead) (315 + 24 * c + 3) (if s (315 + 24 * c + (12 + t)) = -4 then s 313 else s (315 + 24 * c + (12 + t)))) (315 + 24 * c) 3
theorem q_po (S : Sh h) {c t : Nat} (hc : c < 3) (ht : t < 12) {mid what dead : Int32} {u : Value} : zv 2 156 0 [.ref 211, .int (nI c), .int mid, .int what, .int (nI t), .int dead, u] [] (zQ h q s) = some (none, zQ h q (poF s c t mid what dead)) := by
  have e12 : (12 : Int32) + nI t = nI (12 + t) := nI_add 12 t
  have er : up (up (up (up s (315 + 24 * c + 8) mid) (315 + 24 * c + 9) what) (315 + 24 * c + 10) (nI t)) (315 + 24 * c + 11) dead (315 + 24 * c + (12 + t)) = s (315 + 24 * c + (12 + t)) := by
    rw [uc_cc _ _ (by omega), uc_cc _ _ (by omega), uc_cc _ _ (by omega), uc_cc _ _ (by omega)]
  have ht24 : 12 + t < 24 := by omega
  by_cases hp : s (315 + 24 * c + (12 + t)) = -4
  · simp +decide only [b156_0, b156_8, b156_16, b156_25, b156_34, b156_44, b156_56, b156_67, b156_69, b156_72, b156_79, q_cb0, q_cb3, q_cb8, q_cb9, q_cb10, q_cb11, q_oc, ht24, e12, er, hp, S, hc, zQ_n, zQ_k, zQ_r, zQ_w, zQ_212, S.n, S.k, S.r, kx_211, kx_212, rx_211_0, uc_g, poF, Option.bind_some, Option.toList_some, Option.toList_none, List.cons_append, List.nil_append, List.append_nil, zq_rf, or_false, false_or, or_true, true_or, not_false_eq_true, not_true_eq_false, and_true, true_and, and_false, false_and, and_self, or_self, ite_true, ite_false, ↓reduceIte, Int32.reduceAdd, Int32.reduceSub, Int32.reduceMul, Int32.reduceDiv, Int32.reduceLT, Int32.reduceLE, Int32.reduceToNatClampNeg, Int32.reduceToInt, Int32.reduceOfNat, Nat.reduceAdd, Nat.reduceSub, Nat.reduceMul, Nat.reduceLeDiff, Nat.reduceEqDiff]
  · simp +decide only [b156_0, b156_8, b156_16, b156_25, b156_34, b156_44, b156_56, b156_67, b156_69, b156_72, b156_79, q_cb0, q_cb3, q_cb8, q_cb9, q_cb10, q_cb11, q_oc, ht24, e12, er, hp, S, hc, zQ_n, zQ_k, zQ_r, zQ_w, zQ_212, S.n, S.k, S.r, kx_211, kx_212, rx_211_0, uc_g, poF, Option.bind_some, Option.toList_some, Option.toList_none, List.cons_append, List.nil_append, List.append_nil, zq_rf, or_false, false_or, or_true, true_or, not_false_eq_true, not_true_eq_false, and_true, true_and, and_false, false_and, and_self, or_self, ite_true, ite_false, ↓reduceIte, Int32.reduceAdd, Int32.reduceSub, Int32.reduceMul, Int32.reduceDiv, Int32.reduceLT, Int32.reduceLE, Int32.reduceToNatClampNeg, Int32.reduceToInt, Int32.reduceOfNat, Nat.reduceAdd, Nat.reduceSub, Nat.reduceMul, Nat.reduceLeDiff, Nat.reduceEqDiff]
theorem q_en (S : Sh h) {c : Nat} (hc : c < 3) {x : Int32} : zv 2 158 0 [.ref 211, .int (nI c), .int x] [] (zQ h q s) = some (some (.int x), zQ h q (up s (315 + 24 * c) 5)) := by
  simp +decide only [b158_0, b158_7, q_cb0, S, hc, zQ_n, zQ_k, S.n, S.k, kx_211, Option.bind_some, Option.toList_some, Option.toList_none, List.cons_append, List.nil_append, List.append_nil, zq_rf, or_false, false_or, or_true, true_or, not_false_eq_true, not_true_eq_false, and_true, true_and, and_false, false_and, and_self, or_self, ite_true, ite_false, ↓reduceIte, Int32.reduceAdd, Int32.reduceSub, Int32.reduceMul, Int32.reduceDiv, Int32.reduceLT, Int32.reduceLE, Int32.reduceToNatClampNeg, Int32.reduceToInt, Int32.reduceOfNat, Nat.reduceAdd, Nat.reduceSub, Nat.reduceMul, Nat.reduceLeDiff, Nat.reduceEqDiff]
theorem q_an (S : Sh h) {c : Nat} (hc : c < 3) {x : Int32} : zv 3 159 0 [.ref 211, .int (nI c), .int x] [] (zQ h q s) = some (some (.int 3), zQ h q (up (up s (315 + 24 * c + 4) x) (315 + 24 * c) 5)) := by
  simp +decide only [b159_0, b159_7, b159_13, q_cb4, q_en, S, hc, zQ_n, zQ_k, S.n, S.k, kx_211, Option.bind_some, Option.toList_some, Option.toList_none, List.cons_append, List.nil_append, List.append_nil, zq_rf, or_false, false_or, or_true, true_or, not_false_eq_true, not_true_eq_false, and_true, true_and, and_false, false_and, and_self, or_self, ite_true, ite_false, ↓reduceIte, Int32.reduceAdd, Int32.reduceSub, Int32.reduceMul, Int32.reduceDiv, Int32.reduceLT, Int32.reduceLE, Int32.reduceToNatClampNeg, Int32.reduceToInt, Int32.reduceOfNat, Nat.reduceAdd, Nat.reduceSub, Nat.reduceMul, Nat.reduceLeDiff, Nat.reduceEqDiff]
theorem q_gr (S : Sh h) {c n : Nat} (hc : c < 3) (hn : n < 24) (e : s (315 + 24 * c + 3) = nI n) : zv 2 160 0 [.ref 211, .int (nI c)] [] (zQ h q s) = some (some (.int 1), zQ h q (up s (315 + 24 * c + 3) (s (13 * n + 3)))) := by
  simp +decide only [b160_0, b160_10, b160_14, b160_17, q_oc3, q_of3, q_cb3, e, S, hc, hn, zQ_n, zQ_k, S.n, S.k, kx_211, Option.bind_some, Option.toList_some, Option.toList_none, List.cons_append, List.nil_append, List.append_nil, zq_rf, or_false, false_or, or_true, true_or, not_false_eq_true, not_true_eq_false, and_true, true_and, and_false, false_and, and_self, or_self, ite_true, ite_false, ↓reduceIte, Int32.reduceAdd, Int32.reduceSub, Int32.reduceMul, Int32.reduceDiv, Int32.reduceLT, Int32.reduceLE, Int32.reduceToNatClampNeg, Int32.reduceToInt, Int32.reduceOfNat, Nat.reduceAdd, Nat.reduceSub, Nat.reduceMul, Nat.reduceLeDiff, Nat.reduceEqDiff]
theorem q_gd (S : Sh h) {c n j : Nat} (hc : c < 3) (hn : n < 24) (hj : j < 4) (e : s (315 + 24 * c + 3) = nI n) {key : Int32} (hlt : ∀ i, i < j → s (13 * n + (5 + i)) < key) (hge : ¬ s (13 * n + (5 + j)) < key) {u : Value} : zv 3 161 0 [.ref 211, .int (nI c), .int key, u] [] (zQ h q s) = some (some (.int 2), zQ h q (up s (315 + 24 * c + 3) (s (13 * n + (9 + j))))) := by
  have e9 : (9 : Int32) + nI j = nI (9 + j) := nI_add 9 j
  have h9 : 9 + j < 13 := by omega
  have hE := q_ef S (q := q) (s := s) hn (j := j) (by omega) hlt hge (u3 := .double 0)
  simp +decide only [b161_0, b161_6, b161_20, b161_24, b161_27, q_oc3, hE, e9, h9, q_of, q_cb3, e, S, hc, hn, zQ_n, zQ_k, S.n, S.k, kx_211, Option.bind_some, Option.toList_some, Option.toList_none, List.cons_append, List.nil_append, List.append_nil, zq_rf, or_false, false_or, or_true, true_or, not_false_eq_true, not_true_eq_false, and_true, true_and, and_false, false_and, and_self, or_self, ite_true, ite_false, ↓reduceIte, Int32.reduceAdd, Int32.reduceSub, Int32.reduceMul, Int32.reduceDiv, Int32.reduceLT, Int32.reduceLE, Int32.reduceToNatClampNeg, Int32.reduceToInt, Int32.reduceOfNat, Nat.reduceAdd, Nat.reduceSub, Nat.reduceMul, Nat.reduceLeDiff, Nat.reduceEqDiff]
theorem q_lo (S : Sh h) {c : Nat} (hc : c < 3) {x : Int32} : zv 3 162 0 [.ref 211, .int (nI c), .int x] [] (zQ h q s) = if lkB s (s (315 + 24 * c + 3)) = -4 then some (some (.int 4), zQ h q (up s (315 + 24 * c) x)) else some (some (.int 0), zQ h q s) := by
  by_cases hl : lkB s (s (315 + 24 * c + 3)) = -4
  · simp +decide only [b162_0, b162_7, b162_10, b162_15, b162_17, b162_24, q_oc3, q_lk, q_cb0, hl, S, hc, zQ_n, zQ_k, S.n, S.k, kx_211, Option.bind_some, Option.toList_some, Option.toList_none, List.cons_append, List.nil_append, List.append_nil, zq_rf, or_false, false_or, or_true, true_or, not_false_eq_true, not_true_eq_false, and_true, true_and, and_false, false_and, and_self, or_self, ite_true, ite_false, ↓reduceIte, Int32.reduceAdd, Int32.reduceSub, Int32.reduceMul, Int32.reduceDiv, Int32.reduceLT, Int32.reduceLE, Int32.reduceToNatClampNeg, Int32.reduceToInt, Int32.reduceOfNat, Nat.reduceAdd, Nat.reduceSub, Nat.reduceMul, Nat.reduceLeDiff, Nat.reduceEqDiff]
  · simp +decide only [b162_0, b162_7, b162_10, b162_15, b162_17, b162_24, q_oc3, q_lk, q_cb0, hl, S, hc, zQ_n, zQ_k, S.n, S.k, kx_211, Option.bind_some, Option.toList_some, Option.toList_none, List.cons_append, List.nil_append, List.append_nil, zq_rf, or_false, false_or, or_true, true_or, not_false_eq_true, not_true_eq_false, and_true, true_and, and_false, false_and, and_self, or_self, ite_true, ite_false, ↓reduceIte, Int32.reduceAdd, Int32.reduceSub, Int32.reduceMul, Int32.reduceDiv, Int32.reduceLT, Int32.reduceLE, Int32.reduceToNatClampNeg, Int32.reduceToInt, Int32.reduceOfNat, Nat.reduceAdd, Nat.reduceSub, Nat.reduceMul, Nat.reduceLeDiff, Nat.reduceEqDiff]
/-- a step down -/
theorem q_sdR (S : Sh h) {c n : Nat} (hc : c < 3) (hn : n < 24) (e : s (315 + 24 * c + 3) = nI n) (hd : s (13 * n + 4) = 1 ∨ s (13 * n + 2) < s (315 + 24 * c + 2)) {u2 u3 : Value} : zv 4 163 0 [.ref 211, .int (nI c), u2, u3] [] (zQ h q s) = some (some (.int 1), zQ h q (up s (315 + 24 * c + 3) (s (13 * n + 3)))) := by
  have hG := q_gr S (q := q) hc hn e
  by_cases h4 : s (13 * n + 4) = 1
  · simp +decide only [b163_0, b163_6, b163_13, b163_20, b163_24, b163_31, b163_34, b163_39, b163_40, b163_46, b163_49, b163_59, b163_64, b163_70, b163_71, b163_77, b163_80, b163_88, b163_91, b163_94, b163_97, b163_103, q_oc3, q_oc2, q_of4, q_of2, hG, h4, e, S, hc, hn, zQ_n, zQ_k, S.n, S.k, kx_211, Option.bind_some, Option.toList_some, Option.toList_none, List.cons_append, List.nil_append, List.append_nil, zq_rf, or_false, false_or, or_true, true_or, not_false_eq_true, not_true_eq_false, and_true, true_and, and_false, false_and, and_self, or_self, ite_true, ite_false, ↓reduceIte, Int32.reduceAdd, Int32.reduceSub, Int32.reduceMul, Int32.reduceDiv, Int32.reduceLT, Int32.reduceLE, Int32.reduceToNatClampNeg, Int32.reduceToInt, Int32.reduceOfNat, Nat.reduceAdd, Nat.reduceSub, Nat.reduceMul, Nat.reduceLeDiff, Nat.reduceEqDiff]
  · have h2 : s (13 * n + 2) < s (315 + 24 * c + 2) := hd.resolve_left h4
    simp +decide only [b163_0, b163_6, b163_13, b163_20, b163_24, b163_31, b163_34, b163_39, b163_40, b163_46, b163_49, b163_59, b163_64, b163_70, b163_71, b163_77, b163_80, b163_88, b163_91, b163_94, b163_97, b163_103, q_oc3, q_oc2, q_of4, q_of2, hG, h4, h2, e, S, hc, hn, zQ_n, zQ_k, S.n, S.k, kx_211, Option.bind_some, Option.toList_some, Option.toList_none, List.cons_append, List.nil_append, List.append_nil, zq_rf, or_false, false_or, or_true, true_or, not_false_eq_true, not_true_eq_false, and_true, true_and, and_false, false_and, and_self, or_self, ite_true, ite_false, ↓reduceIte, Int32.reduceAdd, Int32.reduceSub, Int32.reduceMul, Int32.reduceDiv, Int32.reduceLT, Int32.reduceLE, Int32.reduceToNatClampNeg, Int32.reduceToInt, Int32.reduceOfNat, Nat.reduceAdd, Nat.reduceSub, Nat.reduceMul, Nat.reduceLeDiff, Nat.reduceEqDiff]
theorem q_sdC (S : Sh h) {c n j t : Nat} (hc : c < 3) (hn : n < 24) (hj : j < 4) (ht : t < 12) (e : s (315 + 24 * c + 3) = nI n) (h4 : ¬ s (13 * n + 4) = 1) (h2 : ¬ s (13 * n + 2) < s (315 + 24 * c + 2)) (et : s (13 * n) = nI t) (ht0 : 0 < t) (hlt : ∀ i, i < j → s (13 * n + (5 + i)) < s (315 + 24 * c + 2)) (hge : ¬ s (13 * n + (5 + j)) < s (315 + 24 * c + 2)) {u2 u3 : Value} : zv 4 163 0 [.ref 211, .int (nI c), u2, u3] [] (zQ h q s) = some (some (.int 2), zQ h q (up (up s (315 + 24 * c + (12 + t)) (nI n)) (315 + 24 * c + 3) (s (13 * n + (9 + j))))) := by
  have e12 : (12 : Int32) + nI t = nI (12 + t) := nI_add 12 t
  have h12 : 12 + t < 24 := by omega
  have hp : (0 : Int32) < nI t := nI_lt (a := 0) ht0 (by omega)
  have hG := q_gd S (q := q) (s := up s (315 + 24 * c + (12 + t)) (nI n)) (c := c) (n := n) (j := j) (key := s (315 + 24 * c + 2)) (u := .double 0) hc hn hj (by rw [uc_cc _ _ (by omega)]; exact e) (fun i hi => by rw [uc_n _ _ hn (by omega)]; exact hlt i hi) (by rw [uc_n _ _ hn (by omega)]; exact hge)
  rw [uc_n _ _ hn (by omega)] at hG
  simp +decide only [b163_0, b163_6, b163_13, b163_20, b163_24, b163_31, b163_34, b163_39, b163_40, b163_46, b163_49, b163_59, b163_64, b163_70, b163_71, b163_77, b163_80, b163_88, b163_91, b163_94, b163_97, b163_103, q_oc3, q_oc2, q_of4, q_of2, q_of0, q_cb, hG, h4, h2, et, hp, e12, h12, e, S, hc, hn, zQ_n, zQ_k, S.n, S.k, kx_211, Option.bind_some, Option.toList_some, Option.toList_none, List.cons_append, List.nil_append, List.append_nil, zq_rf, or_false, false_or, or_true, true_or, not_false_eq_true, not_true_eq_false, and_true, true_and, and_false, false_and, and_self, or_self, ite_true, ite_false, ↓reduceIte, Int32.reduceAdd, Int32.reduceSub, Int32.reduceMul, Int32.reduceDiv, Int32.reduceLT, Int32.reduceLE, Int32.reduceToNatClampNeg, Int32.reduceToInt, Int32.reduceOfNat, Nat.reduceAdd, Nat.reduceSub, Nat.reduceMul, Nat.reduceLeDiff, Nat.reduceEqDiff]
theorem q_sdF (S : Sh h) {c n m : Nat} (hc : c < 3) (hn : n < 24) (hm : m ≤ 4) (em : s (13 * n + 1) = nI m) (e : s (315 + 24 * c + 3) = nI n) (h4 : ¬ s (13 * n + 4) = 1) (h2 : ¬ s (13 * n + 2) < s (315 + 24 * c + 2)) (h0 : s (13 * n) = 0) (ha : s (315 + 24 * c + 1) = 0) {u2 u3 : Value} : zv 4 163 0 [.ref 211, .int (nI c), u2, u3] [] (zQ h q s) = some (some (.int 3), zQ h q (up (up s (315 + 24 * c + 4) (zi_bI (hkF s n (s (315 + 24 * c + 2)) m))) (315 + 24 * c) 5)) := by
  have hH := q_has S (q := q) hn hm em (key := s (315 + 24 * c + 2)) (u3 := .double 0) (u4 := .double 0)
  cases hb : hkF s n (s (315 + 24 * c + 2)) m with
  | true =>
    rw [hb] at hH
    simp +decide only [b163_0, b163_6, b163_13, b163_20, b163_24, b163_31, b163_34, b163_39, b163_40, b163_46, b163_49, b163_59, b163_64, b163_70, b163_71, b163_77, b163_80, b163_88, b163_91, b163_94, b163_97, b163_103, q_oc3, q_oc2, q_oc1, q_of4, q_of2, q_of0, hH, zi_bI_t, r_flag, q_an, h4, h2, h0, ha, e, S, hc, hn, zQ_n, zQ_k, S.n, S.k, kx_211, Option.bind_some, Option.toList_some, Option.toList_none, List.cons_append, List.nil_append, List.append_nil, zq_rf, or_false, false_or, or_true, true_or, not_false_eq_true, not_true_eq_false, and_true, true_and, and_false, false_and, and_self, or_self, ite_true, ite_false, ↓reduceIte, Int32.reduceAdd, Int32.reduceSub, Int32.reduceMul, Int32.reduceDiv, Int32.reduceLT, Int32.reduceLE, Int32.reduceToNatClampNeg, Int32.reduceToInt, Int32.reduceOfNat, Nat.reduceAdd, Nat.reduceSub, Nat.reduceMul, Nat.reduceLeDiff, Nat.reduceEqDiff]
  | false =>
    rw [hb] at hH
    simp +decide only [b163_0, b163_6, b163_13, b163_20, b163_24, b163_31, b163_34, b163_39, b163_40, b163_46, b163_49, b163_59, b163_64, b163_70, b163_71, b163_77, b163_80, b163_88, b163_91, b163_94, b163_97, b163_103, q_oc3, q_oc2, q_oc1, q_of4, q_of2, q_of0, hH, zi_bI_f, r_flag, q_an, h4, h2, h0, ha, e, S, hc, hn, zQ_n, zQ_k, S.n, S.k, kx_211, Option.bind_some, Option.toList_some, Option.toList_none, List.cons_append, List.nil_append, List.append_nil, zq_rf, or_false, false_or, or_true, true_or, not_false_eq_true, not_true_eq_false, and_true, true_and, and_false, false_and, and_self, or_self, ite_true, ite_false, ↓reduceIte, Int32.reduceAdd, Int32.reduceSub, Int32.reduceMul, Int32.reduceDiv, Int32.reduceLT, Int32.reduceLE, Int32.reduceToNatClampNeg, Int32.reduceToInt, Int32.reduceOfNat, Nat.reduceAdd, Nat.reduceSub, Nat.reduceMul, Nat.reduceLeDiff, Nat.reduceEqDiff]
theorem q_sdL (S : Sh h) {c n : Nat} (hc : c < 3) (hn : n < 24) (e : s (315 + 24 * c + 3) = nI n) (h4 : ¬ s (13 * n + 4) = 1) (h2 : ¬ s (13 * n + 2) < s (315 + 24 * c + 2)) (h0 : s (13 * n) = 0) (ha : ¬ s (315 + 24 * c + 1) = 0) {u2 u3 : Value} : zv 4 163 0 [.ref 211, .int (nI c), u2, u3] [] (zQ h q s) = if lkB s (nI n) = -4 then some (some (.int 4), zQ h q (up s (315 + 24 * c) 2)) else some (some (.int 0), zQ h q s) := by
  have hG := q_lo S (q := q) (s := s) hc (x := 2)
  rw [e] at hG
  by_cases hl : lkB s (nI n) = -4
  · rw [if_pos hl] at hG
    simp +decide only [b163_0, b163_6, b163_13, b163_20, b163_24, b163_31, b163_34, b163_39, b163_40, b163_46, b163_49, b163_59, b163_64, b163_70, b163_71, b163_77, b163_80, b163_88, b163_91, b163_94, b163_97, b163_103, q_oc3, q_oc2, q_oc1, q_of4, q_of2, q_of0, hG, hl, h4, h2, h0, ha, e, S, hc, hn, zQ_n, zQ_k, S.n, S.k, kx_211, Option.bind_some, Option.toList_some, Option.toList_none, List.cons_append, List.nil_append, List.append_nil, zq_rf, or_false, false_or, or_true, true_or, not_false_eq_true, not_true_eq_false, and_true, true_and, and_false, false_and, and_self, or_self, ite_true, ite_false, ↓reduceIte, Int32.reduceAdd, Int32.reduceSub, Int32.reduceMul, Int32.reduceDiv, Int32.reduceLT, Int32.reduceLE, Int32.reduceToNatClampNeg, Int32.reduceToInt, Int32.reduceOfNat, Nat.reduceAdd, Nat.reduceSub, Nat.reduceMul, Nat.reduceLeDiff, Nat.reduceEqDiff]
  · rw [if_neg hl] at hG
    simp +decide only [b163_0, b163_6, b163_13, b163_20, b163_24, b163_31, b163_34, b163_39, b163_40, b163_46, b163_49, b163_59, b163_64, b163_70, b163_71, b163_77, b163_80, b163_88, b163_91, b163_94, b163_97, b163_103, q_oc3, q_oc2, q_oc1, q_of4, q_of2, q_of0, hG, hl, h4, h2, h0, ha, e, S, hc, hn, zQ_n, zQ_k, S.n, S.k, kx_211, Option.bind_some, Option.toList_some, Option.toList_none, List.cons_append, List.nil_append, List.append_nil, zq_rf, or_false, false_or, or_true, true_or, not_false_eq_true, not_true_eq_false, and_true, true_and, and_false, false_and, and_self, or_self, ite_true, ite_false, ↓reduceIte, Int32.reduceAdd, Int32.reduceSub, Int32.reduceMul, Int32.reduceDiv, Int32.reduceLT, Int32.reduceLE, Int32.reduceToNatClampNeg, Int32.reduceToInt, Int32.reduceOfNat, Nat.reduceAdd, Nat.reduceSub, Nat.reduceMul, Nat.reduceLeDiff, Nat.reduceEqDiff]
end R20C
end
section
/-! THE REFERENCE'S BIG ROWS -/
section R20D
variable {h : zi_Hp} {s : Nat → Int32}
/-- a row with one more in it: at p -/
def blF (s : Nat → Int32) (n p : Nat) (key : Int32) (i : Nat) : Int32 := if i < p then s (13 * n + (5 + i)) else if i = p then key else s (13 * n + (5 + (i - 1)))
theorem q_bl (S : Sh h) {n m p : Nat} (hn : n < 24) (hm : m ≤ 4) (hp : p ≤ m) (em : s (13 * n + 1) = nI m) {key : Int32} (hlt : ∀ i, i < p → ¬ key < s (13 * n + (5 + i))) (hge : ∀ i, p ≤ i → i < m → key < s (13 * n + (5 + i))) {q : zQs} {u3 u4 : Value} : ∃ bk bc, zv 2 164 0 [.ref 211, .int (nI n), .int key, u3, u4] [] (zQ h q s) = some (none, zQ h (bk, bc, nI (m + 1), q.2.2.2) s) ∧ ∀ t, t ≤ m → bk t = blF s n p key t ∧ bc t = -4 := by
  have adds : ∀ {bk bc : Nat → Int32} {cnt : Nat} {k2 : Int32}, (∀ t, t < cnt → bk t = blF s n p key t ∧ bc t = -4) → k2 = blF s n p key cnt → ∀ t, t < cnt + 1 → up bk cnt k2 t = blF s n p key t ∧ up bc cnt (-4) t = -4 := by
    intro bk bc cnt k2 h1 h2 t ht
    by_cases e : t = cnt
    · subst e
      rw [up_s, up_s]
      exact ⟨h2, rfl⟩
    · rw [up_n _ _ e, up_n _ _ e]
      exact h1 t (by omega)
  have loop : ∀ d i bk bc cnt, i + d = m → cnt = (if p < i then i + 1 else i) → (∀ t, t < cnt → bk t = blF s n p key t ∧ bc t = -4) → ∃ bk' bc', zv 2 164 10 [.ref 211, .int (nI n), .int key, .int (if p < i then 1 else 0), .int (nI i)] [] (zQ h (bk, bc, nI cnt, q.2.2.2) s) = some (none, zQ h (bk', bc', nI (m + 1), q.2.2.2) s) ∧ ∀ t, t ≤ m → bk' t = blF s n p key t ∧ bc' t = -4 := by
    intro d
    induction d with
    | zero =>
      intro i bk bc cnt hi hc hr
      have e : i = m := by omega
      subst e
      rw [b164_10 (q_g0 S) (q_g1 S), q_of1 S hn, em]
      simp only [Option.bind_some, Option.toList_some, List.cons_append, List.nil_append]
      rw [b164_18, if_neg (nI_nlt (Nat.le_refl _) (by omega)), b164_68]
      by_cases hpi : p < i
      · rw [if_pos hpi] at hc ⊢
        subst hc
        rw [if_neg (by decide), b164_79]
        exact ⟨bk, bc, rfl, fun t ht => hr t (by omega)⟩
      · rw [if_neg hpi] at hc ⊢
        subst hc
        have hpe : p = cnt := by omega
        rw [if_pos rfl, b164_72 (q_g0 S) (q_g1 S), q_ba S (m := cnt) (by omega) rfl]
        simp only [Option.bind_some, Option.toList_none, List.nil_append]
        rw [b164_79]
        refine ⟨_, _, rfl, fun t ht => adds hr ?_ t (by omega)⟩
        rw [blF, if_neg (by omega), if_pos hpe.symm]
    | succ d ih =>
      intro i bk bc cnt hi hc hr
      have e5 : (5 : Int32) + nI i = nI (5 + i) := nI_add 5 i
      rw [b164_10 (q_g0 S) (q_g1 S), q_of1 S hn, em]
      simp only [Option.bind_some, Option.toList_some, List.cons_append, List.nil_append]
      rw [b164_18, if_pos (nI_lt (by omega) (by omega)), b164_21]
      by_cases hpi : p < i
      · rw [if_pos hpi] at hc ⊢
        subst hc
        rw [if_neg (by decide), b164_47 (q_g0 S) (q_g1 S), e5, q_of S hn (by omega)]
        simp only [Option.bind_some, Option.toList_some, List.cons_append, List.nil_append]
        rw [b164_57 (q_g0 S) (q_g1 S), q_ba S (m := i + 1) (by omega) rfl]
        simp only [Option.bind_some, Option.toList_none, List.nil_append]
        rw [b164_62, nI_1]
        have hx := ih (i + 1) (up bk (i + 1) (s (13 * n + (5 + i)))) (up bc (i + 1) (-4)) (i + 2) (by omega) (by rw [if_pos (by omega)]) (adds hr (by rw [blF, if_neg (by omega), if_neg (by omega), Nat.add_sub_cancel]))
        rw [if_pos (by omega)] at hx
        exact hx
      · rw [if_neg hpi] at hc ⊢
        subst hc
        rw [if_pos rfl, b164_25 (q_g0 S) (q_g1 S), e5, q_of S hn (by omega)]
        simp only [Option.bind_some, Option.toList_some, List.cons_append, List.nil_append]
        rw [b164_34]
        by_cases hpe : p = cnt
        · rw [if_pos (hge cnt (by omega) (by omega)), b164_38 (q_g0 S) (q_g1 S), q_ba S (m := cnt) (by omega) rfl]
          simp only [Option.bind_some, Option.toList_none, List.nil_append]
          rw [b164_45, b164_47 (q_g0 S) (q_g1 S), e5, q_of S hn (by omega)]
          simp only [Option.bind_some, Option.toList_some, List.cons_append, List.nil_append]
          rw [b164_57 (q_g0 S) (q_g1 S), q_ba S (m := cnt + 1) (by omega) rfl]
          simp only [Option.bind_some, Option.toList_none, List.nil_append]
          rw [b164_62, nI_1]
          have h1 := adds hr (k2 := key) (by rw [blF, if_neg (by omega), if_pos hpe.symm])
          have hx := ih (cnt + 1) (up (up bk cnt key) (cnt + 1) (s (13 * n + (5 + cnt)))) (up (up bc cnt (-4)) (cnt + 1) (-4)) (cnt + 2) (by omega) (by rw [if_pos (by omega)]) (adds h1 (by rw [blF, if_neg (by omega), if_neg (by omega), Nat.add_sub_cancel]))
          rw [if_pos (by omega)] at hx
          exact hx
        · rw [if_neg (hlt cnt (by omega)), b164_47 (q_g0 S) (q_g1 S), e5, q_of S hn (by omega)]
          simp only [Option.bind_some, Option.toList_some, List.cons_append, List.nil_append]
          rw [b164_57 (q_g0 S) (q_g1 S), q_ba S (m := cnt) (by omega) rfl]
          simp only [Option.bind_some, Option.toList_none, List.nil_append]
          rw [b164_62, nI_1]
          have hx := ih (cnt + 1) (up bk cnt (s (13 * n + (5 + cnt)))) (up bc cnt (-4)) (cnt + 1) (by omega) (by rw [if_neg (by omega)]) (adds hr (by rw [blF, if_pos (by omega)]))
          rw [if_neg (by omega)] at hx
          exact hx
  rw [b164_0 (q_g0 S) (q_g1 S), zQ_wm]
  have hx := loop m 0 q.1 q.2.1 0 (by omega) (by rw [if_neg (by omega)]) (fun t ht => absurd ht (Nat.not_lt_zero t))
  rw [if_neg (by omega)] at hx
  exact hx
/-- splits -/
def spF (s : Nat → Int32) (c n v t ls bm : Nat) (bk bc : Nat → Int32) : Nat → Int32 := poF (up (up (nH (nH (nnF s v (s (13 * n)) (s (13 * n + 2)) (s (13 * n + 3))) v (fun i => bk (ls + i)) (fun i => bc (ls + i)) (bm - ls)) n bk bc ls) (13 * n + 3) (nI v)) (13 * n + 2) (bk (ls - 1))) c (t + 1) (bk (ls - 1)) (nI v) 0
theorem nH_o {s g gc : Nat → Int32} {n k j : Nat} (hk : k ≤ 4) (hj : j < 13 * n ∨ j = 13 * n ∨ j = 13 * n + 2 ∨ j = 13 * n + 3 ∨ j = 13 * n + 4 ∨ 13 * n + 13 ≤ j) : nH s n g gc k j = s j := by
  rw [nH, up_n _ _ (by omega), nP, if_neg (by omega), if_neg (by omega)]
theorem nn_o {s : Nat → Int32} {v j : Nat} {lv hi rt : Int32} (h1 : j ≠ 312) (hj : j < 13 * v ∨ 13 * v + 5 ≤ j) : nnF s v lv hi rt j = s j := by
  rw [nnF, up_n _ _ (by omega), up_n _ _ (by omega), up_n _ _ (by omega), up_n _ _ (by omega), up_n _ _ h1]
theorem q_sp (S : Sh h) {c n v t ls bm : Nat} {q : zQs} (hc : c < 3) (hn : n < 24) (hv : v < 24) (hnv : n < v) (e : s (315 + 24 * c + 3) = nI n) (ev : s 312 = nI v) (eb : q.2.2.1 = nI bm) (hb : bm = 3 ∧ ls = 2 ∨ bm = 4 ∧ ls = 2 ∨ bm = 5 ∧ ls = 3) (et : s (13 * n) = nI t) (ht : t < 11) {u2 u3 u4 : Value} : zv 3 157 0 [.ref 211, .int (nI c), u2, u3, u4] [] (zQ h q s) = some (none, zQ h q (spF s c n v t ls bm q.1 q.2.1)) := by
  have h2 : (nI bm + 1) / 2 = nI ls := by rcases hb with ⟨rfl, rfl⟩ | ⟨rfl, rfl⟩ | ⟨rfl, rfl⟩ <;> decide
  have hl1 : nI ls - 1 = nI (ls - 1) := by rw [show (1 : Int32) = nI 1 from rfl, nI_sub (by omega)]
  have hin : ∀ {q2 : zQs} {s2 : Nat → Int32}, ¬ (nI (ls - 1) < 0 ∨ (zh_k (zQ h q2 s2) 215).2 ≤ (nI (ls - 1)).toNatClampNeg) := by
    intro q2 s2
    rw [zQ_k, S.k, kx_215]
    exact zj_n (by omega) (by decide)
  rw [b157_0 (q_g0 S) (q_g1 S), q_oc3 S hc, e]
  simp only [Option.bind_some, Option.toList_some, List.cons_append, List.nil_append]
  rw [b157_6 (q_g0 S) (q_g1 S), q_of0 S hn, zQ_2115, eb, h2]
  simp only [Option.bind_some, Option.toList_some, List.cons_append, List.nil_append]
  rw [b157_23 (q_g0 S) (q_g1 S), q_of2 S hn]
  simp only [Option.bind_some, Option.toList_some, List.cons_append, List.nil_append]
  rw [b157_29 (q_g0 S) (q_g1 S), q_of3 S hn]
  simp only [Option.bind_some, Option.toList_some, List.cons_append, List.nil_append]
  rw [b157_35 (q_g0 S) (q_g1 S), q_nn S hv ev]
  simp only [Option.bind_some, Option.toList_some, List.cons_append, List.nil_append]
  rw [b157_38 (q_g0 S) (q_g1 S), zQ_2115, eb, q_nh S hv (by omega) (by omega) (by omega)]
  simp only [Option.bind_some, Option.toList_none, List.nil_append]
  rw [b157_51 (q_g0 S) (q_g1 S), show (0 : Int32) = nI 0 from rfl, q_nh S hn (by omega) (by omega) (by omega)]
  simp only [Option.bind_some, Option.toList_none, List.nil_append, Nat.zero_add, Nat.sub_zero]
  rw [b157_58 (q_g0 S) (q_g1 S), q_nb3 S hn]
  simp only [Option.bind_some, Option.toList_none, List.nil_append]
  rw [b157_66 (q_g0 S) (q_g1 S) (by rw [q_r3 S, zq_rf]) (by rw [q_r3 S, zq_rf, zQ_n, S.n]; decide) (by rw [q_r3 S, zq_rf, hl1]; exact hin) (by rw [q_r3 S, zq_rf, zQ_k, S.k, kx_215]), q_r3 S, zq_rf, hl1, nI_clamp (by omega), zQ_215, q_nb2 S hn]
  simp only [Option.bind_some, Option.toList_none, List.nil_append]
  rw [b157_80 (q_g0 S) (q_g1 S) (by rw [q_r3 S, zq_rf]) (by rw [q_r3 S, zq_rf, zQ_n, S.n]; decide) (by rw [q_r3 S, zq_rf, hl1]; exact hin) (by rw [q_r3 S, zq_rf, zQ_k, S.k, kx_215]), q_r3 S, zq_rf, hl1, nI_clamp (by omega), zQ_215, q_of0 S hn]
  simp only [Option.bind_some, Option.toList_some, List.cons_append, List.nil_append]
  rw [un_n0 _ _ (by decide), un_n0 _ _ (by decide), nH_o (by omega) (by omega), nH_o (by omega) (by omega), nn_o (by omega) (by omega), et, b157_98 (q_g0 S) (q_g1 S), nI_1, show (0 : Int32) = nI 0 from rfl, q_po S hc (by omega)]
  simp only [Option.bind_some, Option.toList_none, List.nil_append]
  rw [b157_104, spF, et]
  rfl
end R20D
end
section
/-! THE REFERENCE'S STEPS, a row a case -/
section R20E
variable {h : zi_Hp} {s : Nat → Int32}
theorem nH_congr {g g' gc gc' : Nat → Int32} {n k : Nat} (h1 : ∀ t, t < k → g t = g' t) (h2 : ∀ t, t < k → gc t = gc' t) : nH s n g gc k = nH s n g' gc' k := by
  have e : nP s n g gc k = nP s n g' gc' k := by
    funext j
    rw [nP, nP]
    by_cases a : 13 * n + 5 ≤ j ∧ j < 13 * n + 5 + k
    · rw [if_pos a, if_pos a, h1 _ (by omega)]
    · rw [if_neg a, if_neg a]
      by_cases b : 13 * n + 9 ≤ j ∧ j < 13 * n + 9 + k
      · rw [if_pos b, if_pos b, h2 _ (by omega)]
      · rw [if_neg b, if_neg b]
  rw [nH, nH, e]
theorem spF_congr {bk bk' bc bc' : Nat → Int32} {c n v t ls bm : Nat} (hl : 0 < ls ∧ ls ≤ bm) (h1 : ∀ t, t < bm → bk t = bk' t) (h2 : ∀ t, t < bm → bc t = bc' t) : spF s c n v t ls bm bk bc = spF s c n v t ls bm bk' bc' := by
  rw [spF, spF, h1 (ls - 1) (by omega)]
  rw [nH_congr (g := fun i => bk (ls + i)) (g' := fun i => bk' (ls + i)) (gc := fun i => bc (ls + i)) (gc' := fun i => bc' (ls + i)) (fun t ht => h1 _ (by omega)) (fun t ht => h2 _ (by omega))]
  rw [nH_congr (g := bk) (g' := bk') (gc := bc) (gc' := bc') (fun t ht => h1 _ (by omega)) (fun t ht => h2 _ (by omega))]
/-- a row with one less: without p -/
def rmF (s : Nat → Int32) (n w p i : Nat) : Int32 := if i < p then s (13 * n + (w + i)) else s (13 * n + (w + (i + 1)))
theorem q_tkL (S : Sh h) {c n m p : Nat} (hn : n < 24) (hm : m ≤ 4) (hp : p < m) (em : s (13 * n + 1) = nI m) {key : Int32} (hk : s (13 * n + (5 + p)) = key) (hne : ∀ i, i < m → i ≠ p → ¬ s (13 * n + (5 + i)) = key) {wo : Nat → Bool} : ∀ d i bk bc cnt, i + d = m → cnt = (if p < i then i - 1 else i) → (∀ t, t < cnt → bk t = rmF s n 5 p t ∧ bc t = -4) → ∃ bk' bc', zv 4 166 38 [.ref 211, .int (nI c), .int (nI n), .int key, .int (nI i)] [] (zQ h (bk, bc, nI cnt, wo) s) = zv 4 166 83 [.ref 211, .int (nI c), .int (nI n), .int key, .int (nI m)] [] (zQ h (bk', bc', nI (m - 1), wo) s) ∧ ∀ t, t < m - 1 → bk' t = rmF s n 5 p t ∧ bc' t = -4 := by
  have adds : ∀ {bk bc : Nat → Int32} {cnt : Nat} {k2 : Int32}, (∀ t, t < cnt → bk t = rmF s n 5 p t ∧ bc t = -4) → k2 = rmF s n 5 p cnt → ∀ t, t < cnt + 1 → up bk cnt k2 t = rmF s n 5 p t ∧ up bc cnt (-4) t = -4 := by
    intro bk bc cnt k2 h1 h2 t ht
    by_cases e : t = cnt
    · subst e
      rw [up_s, up_s]
      exact ⟨h2, rfl⟩
    · rw [up_n _ _ e, up_n _ _ e]
      exact h1 t (by omega)
  intro d
  induction d with
  | zero =>
    intro i bk bc cnt hi hc hr
    have e : i = m := by omega
    subst e
    rw [if_pos hp] at hc
    subst hc
    rw [b166_38 (q_g0 S) (q_g1 S), q_of1 S hn, em]
    simp only [Option.bind_some, Option.toList_some, List.cons_append, List.nil_append]
    rw [b166_46, if_neg (nI_nlt (Nat.le_refl _) (by omega))]
    exact ⟨bk, bc, rfl, hr⟩
  | succ d ih =>
    intro i bk bc cnt hi hc hr
    have e5 : (5 : Int32) + nI i = nI (5 + i) := nI_add 5 i
    rw [b166_38 (q_g0 S) (q_g1 S), q_of1 S hn, em]
    simp only [Option.bind_some, Option.toList_some, List.cons_append, List.nil_append]
    rw [b166_46, if_pos (nI_lt (by omega) (by omega)), b166_49 (q_g0 S) (q_g1 S), e5, q_of S hn (by omega)]
    simp only [Option.bind_some, Option.toList_some, List.cons_append, List.nil_append]
    rw [b166_58]
    by_cases hpi : i = p
    · subst hpi
      rw [if_neg (by omega)] at hc
      subst hc
      rw [if_pos hk, b166_77, nI_1]
      exact ih (cnt + 1) bk bc cnt (by omega) (by rw [if_pos (by omega)]; omega) hr
    · rw [if_neg (hne i (by omega) hpi), b166_62 (q_g0 S) (q_g1 S), e5, q_of S hn (by omega)]
      simp only [Option.bind_some, Option.toList_some, List.cons_append, List.nil_append]
      have hcb : cnt < 5 := by
        subst hc
        by_cases h9 : p < i
        · rw [if_pos h9]; omega
        · rw [if_neg h9]; omega
      rw [b166_72 (q_g0 S) (q_g1 S), q_ba S (m := cnt) hcb rfl]
      simp only [Option.bind_some, Option.toList_none, List.nil_append]
      rw [b166_77, nI_1]
      by_cases h9 : p < i
      · rw [if_pos h9] at hc
        refine ih (i + 1) _ _ (cnt + 1) (by omega) (by rw [if_pos (by omega)]; omega) (adds hr ?_)
        rw [rmF, if_neg (by omega), show cnt + 1 = i by omega]
      · rw [if_neg h9] at hc
        refine ih (i + 1) _ _ (cnt + 1) (by omega) (by rw [if_neg (by omega)]; omega) (adds hr ?_)
        rw [rmF, if_pos (by omega), show cnt = i by omega]
/-- bigOfEntries -/
theorem q_be (S : Sh h) {n m p : Nat} (hn : n < 24) (hm : m ≤ 4) (hp : p < m) (em : s (13 * n + 1) = nI m) {q : zQs} {u3 : Value} : ∃ bk bc, zv 2 169 0 [.ref 211, .int (nI n), .int (nI p), u3] [] (zQ h q s) = some (none, zQ h (bk, bc, nI (m - 1), q.2.2.2) s) ∧ ∀ t, t < m - 1 → bk t = rmF s n 5 p t ∧ bc t = rmF s n 9 p t := by
  have adds : ∀ {bk bc : Nat → Int32} {cnt : Nat} {k2 c2 : Int32}, (∀ t, t < cnt → bk t = rmF s n 5 p t ∧ bc t = rmF s n 9 p t) → k2 = rmF s n 5 p cnt → c2 = rmF s n 9 p cnt → ∀ t, t < cnt + 1 → up bk cnt k2 t = rmF s n 5 p t ∧ up bc cnt c2 t = rmF s n 9 p t := by
    intro bk bc cnt k2 c2 h1 h2 h3 t ht
    by_cases e : t = cnt
    · subst e
      rw [up_s, up_s]
      exact ⟨h2, h3⟩
    · rw [up_n _ _ e, up_n _ _ e]
      exact h1 t (by omega)
  have loop : ∀ d i bk bc cnt, i + d = m → cnt = (if p < i then i - 1 else i) → (∀ t, t < cnt → bk t = rmF s n 5 p t ∧ bc t = rmF s n 9 p t) → ∃ bk' bc', zv 2 169 7 [.ref 211, .int (nI n), .int (nI p), .int (nI i)] [] (zQ h (bk, bc, nI cnt, q.2.2.2) s) = some (none, zQ h (bk', bc', nI (m - 1), q.2.2.2) s) ∧ ∀ t, t < m - 1 → bk' t = rmF s n 5 p t ∧ bc' t = rmF s n 9 p t := by
    intro d
    induction d with
    | zero =>
      intro i bk bc cnt hi hc hr
      have e : i = m := by omega
      subst e
      rw [if_pos hp] at hc
      subst hc
      rw [b169_7 (q_g0 S) (q_g1 S), q_of1 S hn, em]
      simp only [Option.bind_some, Option.toList_some, List.cons_append, List.nil_append]
      rw [b169_14, if_neg (nI_nlt (Nat.le_refl _) (by omega)), b169_49]
      exact ⟨bk, bc, rfl, hr⟩
    | succ d ih =>
      intro i bk bc cnt hi hc hr
      have e5 : (5 : Int32) + nI i = nI (5 + i) := nI_add 5 i
      have e9 : (9 : Int32) + nI i = nI (9 + i) := nI_add 9 i
      rw [b169_7 (q_g0 S) (q_g1 S), q_of1 S hn, em]
      simp only [Option.bind_some, Option.toList_some, List.cons_append, List.nil_append]
      rw [b169_14, if_pos (nI_lt (by omega) (by omega)), b169_17]
      by_cases hpi : i = p
      · subst hpi
        rw [if_neg (by omega)] at hc
        subst hc
        rw [if_pos rfl, b169_43, nI_1]
        exact ih (cnt + 1) bk bc cnt (by omega) (by rw [if_pos (by omega)]; omega) hr
      · rw [if_neg (fun w => hpi ((nI_eq (by omega) (by omega)).mp w)), b169_22 (q_g0 S) (q_g1 S), e5, q_of S hn (by omega)]
        simp only [Option.bind_some, Option.toList_some, List.cons_append, List.nil_append]
        rw [b169_31 (q_g0 S) (q_g1 S), e9, q_of S hn (by omega)]
        simp only [Option.bind_some, Option.toList_some, List.cons_append, List.nil_append]
        have hcb : cnt < 5 := by
          subst hc
          by_cases h9 : p < i
          · rw [if_pos h9]; omega
          · rw [if_neg h9]; omega
        rw [b169_40 (q_g0 S) (q_g1 S), q_ba S (m := cnt) hcb rfl]
        simp only [Option.bind_some, Option.toList_none, List.nil_append]
        rw [b169_43, nI_1]
        by_cases h9 : p < i
        · rw [if_pos h9] at hc
          refine ih (i + 1) _ _ (cnt + 1) (by omega) (by rw [if_pos (by omega)]; omega) (adds hr ?_ ?_)
          · rw [rmF, if_neg (by omega), show cnt + 1 = i by omega]
          · rw [rmF, if_neg (by omega), show cnt + 1 = i by omega]
        · rw [if_neg h9] at hc
          refine ih (i + 1) _ _ (cnt + 1) (by omega) (by rw [if_neg (by omega)]; omega) (adds hr ?_ ?_)
          · rw [rmF, if_pos (by omega), show cnt = i by omega]
          · rw [rmF, if_pos (by omega), show cnt = i by omega]
  rw [b169_0 (q_g0 S) (q_g1 S), zQ_wm]
  exact loop m 0 q.1 q.2.1 0 (by omega) (by rw [if_neg (by omega)]) (fun t ht => absurd ht (Nat.not_lt_zero t))
/-- children with one more -/
def icF (s : Nat → Int32) (n p : Nat) (post : Int32) (i : Nat) : Int32 := if i ≤ p then s (13 * n + (9 + i)) else if i = p + 1 then post else s (13 * n + (9 + (i - 1)))
theorem q_isL (S : Sh h) {c n m p : Nat} (hc3 : c < 3) (hn : n < 24) (hm : m ≤ 4) (hp : p < m) (em : s (13 * n + 1) = nI m) {mid : Int32} {wo : Nat → Bool} : ∀ d i bk bc cnt, i + d = m → cnt = (if p < i then i + 1 else i) → (∀ t, t < cnt → bk t = blF s n p mid t ∧ bc t = icF s n p (s (315 + 24 * c + 9)) t) → ∃ bk' bc', zv 4 171 51 [.ref 211, .int (nI c), .int (nI n), .int mid, .int (nI p), .int (nI i)] [] (zQ h (bk, bc, nI cnt, wo) s) = zv 4 171 130 [.ref 211, .int (nI c), .int (nI n), .int mid, .int (nI p), .int (nI m)] [] (zQ h (bk', bc', nI (m + 1), wo) s) ∧ ∀ t, t < m + 1 → bk' t = blF s n p mid t ∧ bc' t = icF s n p (s (315 + 24 * c + 9)) t := by
  have adds : ∀ {bk bc : Nat → Int32} {cnt : Nat} {k2 c2 : Int32}, (∀ t, t < cnt → bk t = blF s n p mid t ∧ bc t = icF s n p (s (315 + 24 * c + 9)) t) → k2 = blF s n p mid cnt → c2 = icF s n p (s (315 + 24 * c + 9)) cnt → ∀ t, t < cnt + 1 → up bk cnt k2 t = blF s n p mid t ∧ up bc cnt c2 t = icF s n p (s (315 + 24 * c + 9)) t := by
    intro bk bc cnt k2 c2 h1 h2 h3 t ht
    by_cases e : t = cnt
    · subst e
      rw [up_s, up_s]
      exact ⟨h2, h3⟩
    · rw [up_n _ _ e, up_n _ _ e]
      exact h1 t (by omega)
  intro d
  induction d with
  | zero =>
    intro i bk bc cnt hi hc hr
    have e : i = m := by omega
    subst e
    rw [if_pos hp] at hc
    subst hc
    rw [b171_51 (q_g0 S) (q_g1 S), q_of1 S hn, em]
    simp only [Option.bind_some, Option.toList_some, List.cons_append, List.nil_append]
    rw [b171_59, if_neg (nI_nlt (Nat.le_refl _) (by omega))]
    exact ⟨bk, bc, rfl, hr⟩
  | succ d ih =>
    intro i bk bc cnt hi hc hr
    have e5 : (5 : Int32) + nI i = nI (5 + i) := nI_add 5 i
    have e9 : (9 : Int32) + nI i = nI (9 + i) := nI_add 9 i
    rw [b171_51 (q_g0 S) (q_g1 S), q_of1 S hn, em]
    simp only [Option.bind_some, Option.toList_some, List.cons_append, List.nil_append]
    rw [b171_59, if_pos (nI_lt (by omega) (by omega)), b171_62]
    by_cases hpi : i = p
    · subst hpi
      rw [if_neg (by omega)] at hc
      subst hc
      rw [if_pos rfl, b171_69 (q_g0 S) (q_g1 S), e9, q_of S hn (by omega)]
      simp only [Option.bind_some, Option.toList_some, List.cons_append, List.nil_append]
      rw [b171_81 (q_g0 S) (q_g1 S), q_ba S (m := cnt) (by omega) rfl]
      simp only [Option.bind_some, Option.toList_none, List.nil_append]
      rw [b171_84 (q_g0 S) (q_g1 S), e5, q_of S hn (by omega)]
      simp only [Option.bind_some, Option.toList_some, List.cons_append, List.nil_append]
      rw [b171_94, if_pos rfl, b171_101 (q_g0 S) (q_g1 S), q_oc9 S hc3]
      simp only [Option.bind_some, Option.toList_some, List.cons_append, List.nil_append]
      rw [b171_108, b171_121 (q_g0 S) (q_g1 S), q_ba S (m := cnt + 1) (by omega) rfl]
      simp only [Option.bind_some, Option.toList_none, List.nil_append]
      rw [b171_124, nI_1]
      have h1 := adds hr (k2 := mid) (c2 := s (13 * n + (9 + cnt))) (by rw [blF, if_neg (by omega), if_pos rfl]) (by rw [icF, if_pos (Nat.le_refl _)])
      refine ih (cnt + 1) _ _ (cnt + 2) (by omega) (by rw [if_pos (by omega)]) (adds h1 ?_ ?_)
      · rw [blF, if_neg (by omega), if_neg (by omega), Nat.add_sub_cancel]
      · rw [icF, if_neg (by omega), if_pos rfl]
    · have hne : ¬ nI i = nI p := fun w => hpi ((nI_eq (by omega) (by omega)).mp w)
      have hcb : cnt < 5 := by
        subst hc
        by_cases h9 : p < i
        · rw [if_pos h9]; omega
        · rw [if_neg h9]; omega
      rw [if_neg hne, b171_84 (q_g0 S) (q_g1 S), e5, q_of S hn (by omega)]
      simp only [Option.bind_some, Option.toList_some, List.cons_append, List.nil_append]
      rw [b171_94, if_neg hne, b171_111 (q_g0 S) (q_g1 S), e9, q_of S hn (by omega)]
      simp only [Option.bind_some, Option.toList_some, List.cons_append, List.nil_append]
      rw [b171_121 (q_g0 S) (q_g1 S), q_ba S (m := cnt) hcb rfl]
      simp only [Option.bind_some, Option.toList_none, List.nil_append]
      rw [b171_124, nI_1]
      by_cases h9 : p < i
      · rw [if_pos h9] at hc
        subst hc
        refine ih (i + 1) _ _ (i + 1 + 1) (by omega) (by rw [if_pos (by omega)]) (adds hr ?_ ?_)
        · rw [blF, if_neg (by omega), if_neg (by omega), Nat.add_sub_cancel]
        · rw [icF, if_neg (by omega), if_neg (by omega), Nat.add_sub_cancel]
      · rw [if_neg h9] at hc
        subst hc
        refine ih (cnt + 1) _ _ (cnt + 1) (by omega) (by rw [if_neg (by omega)]) (adds hr ?_ ?_)
        · rw [blF, if_pos (by omega)]
        · rw [icF, if_pos (by omega)]
end R20E
end
section
/-! THE REFERENCE'S STEPS: put, take, posts, above -/
section R20F
variable {h : zi_Hp} {q : zQs} {s : Nat → Int32}
theorem q_nh0 (S : Sh h) {n k : Nat} (hn : n < 24) (hk : k ≤ 4) {bk bc g gc : Nat → Int32} {wo : Nat → Bool} {b2 : Int32} (h1 : ∀ t, t < k → bk t = g t) (h2 : ∀ t, t < k → bc t = gc t) {u4 : Value} : zv 2 154 0 [.ref 211, .int (nI n), .int 0, .int (nI k), u4] [] (zQ h (bk, bc, b2, wo) s) = some (none, zQ h (bk, bc, b2, wo) (nH s n g gc k)) := by
  have hN := q_nh S (q := (bk, bc, b2, wo)) (s := s) (n := n) (fr := 0) (to := k) (u4 := u4) hn (by omega) (by omega) (by omega)
  simp only [Nat.zero_add, Nat.sub_zero] at hN
  rw [nH_congr h1 h2] at hN
  exact hN
theorem q_ptH (S : Sh h) {c n m : Nat} (hc : c < 3) (hn : n < 24) (hm : m ≤ 4) (em : s (13 * n + 1) = nI m) (e : s (315 + 24 * c + 3) = nI n) (hb : hkF s n (s (315 + 24 * c + 2)) m = true) {u2 u3 : Value} : zv 4 165 0 [.ref 211, .int (nI c), u2, u3] [] (zQ h q s) = some (some (.int 3), zQ h q (up (up s (315 + 24 * c + 4) 0) (315 + 24 * c) 5)) := by
  have hH := q_has S (q := q) hn hm em (key := s (315 + 24 * c + 2)) (u3 := .double 0) (u4 := .double 0)
  rw [hb] at hH
  simp +decide only [b165_0, b165_6, b165_13, b165_20, b165_23, b165_29, b165_30, b165_36, b165_51, b165_61, b165_67, b165_68, b165_81, b165_88, b165_89, b165_94, b165_101, q_oc3, q_oc2, hH, zi_bI_t, q_an, e, S, hc, hn, zQ_n, zQ_k, zQ_r, zQ_w, zQ_212, zQ_2115, zQ_wm, S.n, S.k, S.r, kx_211, kx_212, rx_211_0, Option.bind_some, Option.toList_some, Option.toList_none, List.cons_append, List.nil_append, List.append_nil, zq_rf, or_false, false_or, or_true, true_or, not_false_eq_true, not_true_eq_false, and_true, true_and, and_false, false_and, and_self, or_self, ite_true, ite_false, ↓reduceIte, Int32.reduceAdd, Int32.reduceSub, Int32.reduceMul, Int32.reduceDiv, Int32.reduceLT, Int32.reduceLE, Int32.reduceToNatClampNeg, Int32.reduceToInt, Int32.reduceOfNat, Nat.reduceAdd, Nat.reduceSub, Nat.reduceMul, Nat.reduceLeDiff, Nat.reduceEqDiff]
theorem q_ptF (S : Sh h) {c n m p M : Nat} (hc : c < 3) (hn : n < 24) (hm : m ≤ 4) (em : s (13 * n + 1) = nI m) (e : s (315 + 24 * c + 3) = nI n) (hb : hkF s n (s (315 + 24 * c + 2)) m = false) (hp : p ≤ m) (hlt : ∀ i, i < p → ¬ s (315 + 24 * c + 2) < s (13 * n + (5 + i))) (hge : ∀ i, p ≤ i → i < m → s (315 + 24 * c + 2) < s (13 * n + (5 + i))) (eM : s 314 = nI M) (hM : M ≤ 4) (hf : m + 1 ≤ M) {u2 u3 : Value} : ∃ q', q'.2.2.2 = q.2.2.2 ∧ zv 4 165 0 [.ref 211, .int (nI c), u2, u3] [] (zQ h q s) = some (some (.int 3), zQ h q' (up (up (nH s n (blF s n p (s (315 + 24 * c + 2))) (fun _ => -4) (m + 1)) (315 + 24 * c + 4) 1) (315 + 24 * c) 5)) := by
  have hH := q_has S (q := q) hn hm em (key := s (315 + 24 * c + 2)) (u3 := .double 0) (u4 := .double 0)
  rw [hb] at hH
  obtain ⟨bk, bc, eB, hB⟩ := q_bl S hn hm hp em hlt hge (q := q) (u3 := .double 0) (u4 := .double 0)
  have hN := q_nh0 S (s := s) (n := n) (k := m + 1) (bk := bk) (bc := bc) (g := blF s n p (s (315 + 24 * c + 2))) (gc := fun _ => -4) (wo := q.2.2.2) (b2 := nI (m + 1)) (u4 := .double 0) hn (by omega) (fun t ht => (hB t (by omega)).1) (fun t ht => (hB t (by omega)).2)
  have hx : ¬ nI M < nI (m + 1) := nI_nlt hf (by omega)
  refine ⟨(bk, bc, nI (m + 1), q.2.2.2), rfl, ?_⟩
  simp +decide only [b165_0, b165_6, b165_13, b165_20, b165_23, b165_29, b165_30, b165_36, b165_51, b165_61, b165_67, b165_68, b165_81, b165_88, b165_89, b165_94, b165_101, q_oc3, q_oc2, hH, zi_bI_f, eB, hN, hx, eM, q_an, e, S, hc, hn, zQ_n, zQ_k, zQ_r, zQ_w, zQ_212, zQ_2115, zQ_wm, S.n, S.k, S.r, kx_211, kx_212, rx_211_0, Option.bind_some, Option.toList_some, Option.toList_none, List.cons_append, List.nil_append, List.append_nil, zq_rf, or_false, false_or, or_true, true_or, not_false_eq_true, not_true_eq_false, and_true, true_and, and_false, false_and, and_self, or_self, ite_true, ite_false, ↓reduceIte, Int32.reduceAdd, Int32.reduceSub, Int32.reduceMul, Int32.reduceDiv, Int32.reduceLT, Int32.reduceLE, Int32.reduceToNatClampNeg, Int32.reduceToInt, Int32.reduceOfNat, Nat.reduceAdd, Nat.reduceSub, Nat.reduceMul, Nat.reduceLeDiff, Nat.reduceEqDiff]
theorem q_ptX (S : Sh h) {c n m p M : Nat} (hc : c < 3) (hn : n < 24) (hm : m ≤ 4) (em : s (13 * n + 1) = nI m) (e : s (315 + 24 * c + 3) = nI n) (hb : hkF s n (s (315 + 24 * c + 2)) m = false) (hp : p ≤ m) (hlt : ∀ i, i < p → ¬ s (315 + 24 * c + 2) < s (13 * n + (5 + i))) (hge : ∀ i, p ≤ i → i < m → s (315 + 24 * c + 2) < s (13 * n + (5 + i))) (eM : s 314 = nI M) (hf : M < m + 1) (eN : s 312 = 24) {u2 u3 : Value} : ∃ q', q'.2.2.2 = q.2.2.2 ∧ zv 4 165 0 [.ref 211, .int (nI c), u2, u3] [] (zQ h q s) = some (some (.int 3), zQ h q' (up (up s (315 + 24 * c + 4) (-3)) (315 + 24 * c) 5)) := by
  have hH := q_has S (q := q) hn hm em (key := s (315 + 24 * c + 2)) (u3 := .double 0) (u4 := .double 0)
  rw [hb] at hH
  obtain ⟨bk, bc, eB, hB⟩ := q_bl S hn hm hp em hlt hge (q := q) (u3 := .double 0) (u4 := .double 0)
  have hx : nI M < nI (m + 1) := nI_lt hf (by omega)
  refine ⟨(bk, bc, nI (m + 1), q.2.2.2), rfl, ?_⟩
  simp +decide only [b165_0, b165_6, b165_13, b165_20, b165_23, b165_29, b165_30, b165_36, b165_51, b165_61, b165_67, b165_68, b165_81, b165_88, b165_89, b165_94, b165_101, q_oc3, q_oc2, hH, zi_bI_f, eB, hx, eM, eN, q_an, e, S, hc, hn, zQ_n, zQ_k, zQ_r, zQ_w, zQ_212, zQ_2115, zQ_wm, S.n, S.k, S.r, kx_211, kx_212, rx_211_0, Option.bind_some, Option.toList_some, Option.toList_none, List.cons_append, List.nil_append, List.append_nil, zq_rf, or_false, false_or, or_true, true_or, not_false_eq_true, not_true_eq_false, and_true, true_and, and_false, false_and, and_self, or_self, ite_true, ite_false, ↓reduceIte, Int32.reduceAdd, Int32.reduceSub, Int32.reduceMul, Int32.reduceDiv, Int32.reduceLT, Int32.reduceLE, Int32.reduceToNatClampNeg, Int32.reduceToInt, Int32.reduceOfNat, Nat.reduceAdd, Nat.reduceSub, Nat.reduceMul, Nat.reduceLeDiff, Nat.reduceEqDiff]
theorem q_ptS (S : Sh h) {c n m p v t ls : Nat} (hc : c < 3) (hn : n < 24) (hm : m ≤ 4) (em : s (13 * n + 1) = nI m) (e : s (315 + 24 * c + 3) = nI n) (hb : hkF s n (s (315 + 24 * c + 2)) m = false) (hp : p ≤ m) (hlt : ∀ i, i < p → ¬ s (315 + 24 * c + 2) < s (13 * n + (5 + i))) (hge : ∀ i, p ≤ i → i < m → s (315 + 24 * c + 2) < s (13 * n + (5 + i))) {M : Nat} (eM : s 314 = nI M) (hf : M < m + 1) (hv : v < 24) (ev : s 312 = nI v) (hnv : n < v) (hls : m + 1 = 3 ∧ ls = 2 ∨ m + 1 = 4 ∧ ls = 2 ∨ m + 1 = 5 ∧ ls = 3) (et : s (13 * n) = nI t) (ht : t < 11) {u2 u3 : Value} : ∃ q', q'.2.2.2 = q.2.2.2 ∧ zv 4 165 0 [.ref 211, .int (nI c), u2, u3] [] (zQ h q s) = some (some (.int 5), zQ h q' (up (spF s c n v t ls (m + 1) (blF s n p (s (315 + 24 * c + 2))) (fun _ => -4)) (315 + 24 * c + 4) 1)) := by
  have hH := q_has S (q := q) hn hm em (key := s (315 + 24 * c + 2)) (u3 := .double 0) (u4 := .double 0)
  rw [hb] at hH
  obtain ⟨bk, bc, eB, hB⟩ := q_bl S hn hm hp em hlt hge (q := q) (u3 := .double 0) (u4 := .double 0)
  have hP := q_sp S (s := s) (q := (bk, bc, nI (m + 1), q.2.2.2)) (u2 := .double 0) (u3 := .double 0) (u4 := .double 0) hc hn hv hnv e ev rfl hls et ht
  rw [spF_congr (bk' := blF s n p (s (315 + 24 * c + 2))) (bc' := fun _ => -4) (by omega) (fun t ht => (hB t (by omega)).1) (fun t ht => (hB t (by omega)).2)] at hP
  have hx : nI M < nI (m + 1) := nI_lt hf (by omega)
  have h24 : ¬ nI v = 24 := fun w => absurd ((nI_eq (a := v) (b := 24) (by omega) (by decide)).mp w) (by omega)
  refine ⟨(bk, bc, nI (m + 1), q.2.2.2), rfl, ?_⟩
  simp +decide only [b165_0, b165_6, b165_13, b165_20, b165_23, b165_29, b165_30, b165_36, b165_51, b165_61, b165_67, b165_68, b165_81, b165_88, b165_89, b165_94, b165_101, q_oc3, q_oc2, hH, zi_bI_f, eB, hx, eM, ev, h24, hP, q_cb4, e, S, hc, hn, zQ_n, zQ_k, zQ_r, zQ_w, zQ_212, zQ_2115, zQ_wm, S.n, S.k, S.r, kx_211, kx_212, rx_211_0, Option.bind_some, Option.toList_some, Option.toList_none, List.cons_append, List.nil_append, List.append_nil, zq_rf, or_false, false_or, or_true, true_or, not_false_eq_true, not_true_eq_false, and_true, true_and, and_false, false_and, and_self, or_self, ite_true, ite_false, ↓reduceIte, Int32.reduceAdd, Int32.reduceSub, Int32.reduceMul, Int32.reduceDiv, Int32.reduceLT, Int32.reduceLE, Int32.reduceToNatClampNeg, Int32.reduceToInt, Int32.reduceOfNat, Nat.reduceAdd, Nat.reduceSub, Nat.reduceMul, Nat.reduceLeDiff, Nat.reduceEqDiff]
theorem q_tkN (S : Sh h) {c n m : Nat} (hc : c < 3) (hn : n < 24) (hm : m ≤ 4) (em : s (13 * n + 1) = nI m) (e : s (315 + 24 * c + 3) = nI n) (hb : hkF s n (s (315 + 24 * c + 2)) m = false) {u2 u3 u4 : Value} : zv 4 166 0 [.ref 211, .int (nI c), u2, u3, u4] [] (zQ h q s) = some (some (.int 3), zQ h q (up (up s (315 + 24 * c + 4) 0) (315 + 24 * c) 5)) := by
  have hH := q_has S (q := q) hn hm em (key := s (315 + 24 * c + 2)) (u3 := .double 0) (u4 := .double 0)
  rw [hb] at hH
  simp +decide only [b166_0, b166_6, b166_13, b166_20, b166_23, b166_29, q_oc3, q_oc2, hH, zi_bI_f, q_an, e, S, hc, hn, zQ_n, zQ_k, zQ_r, zQ_w, zQ_212, zQ_2115, zQ_wm, S.n, S.k, S.r, kx_211, kx_212, rx_211_0, Option.bind_some, Option.toList_some, Option.toList_none, List.cons_append, List.nil_append, List.append_nil, zq_rf, or_false, false_or, or_true, true_or, not_false_eq_true, not_true_eq_false, and_true, true_and, and_false, false_and, and_self, or_self, ite_true, ite_false, ↓reduceIte, Int32.reduceAdd, Int32.reduceSub, Int32.reduceMul, Int32.reduceDiv, Int32.reduceLT, Int32.reduceLE, Int32.reduceToNatClampNeg, Int32.reduceToInt, Int32.reduceOfNat, Nat.reduceAdd, Nat.reduceSub, Nat.reduceMul, Nat.reduceLeDiff, Nat.reduceEqDiff]
theorem q_tkH (S : Sh h) {c n m p : Nat} (hc : c < 3) (hn : n < 24) (hm : m ≤ 4) (hp : p < m) (em : s (13 * n + 1) = nI m) (e : s (315 + 24 * c + 3) = nI n) (hb : hkF s n (s (315 + 24 * c + 2)) m = true) (hk : s (13 * n + (5 + p)) = s (315 + 24 * c + 2)) (hne : ∀ i, i < m → i ≠ p → ¬ s (13 * n + (5 + i)) = s (315 + 24 * c + 2)) {u2 u3 u4 : Value} : ∃ q', q'.2.2.2 = q.2.2.2 ∧ q'.2.2.1 = nI (m - 1) ∧ zv 4 166 0 [.ref 211, .int (nI c), u2, u3, u4] [] (zQ h q s) = zv 4 166 93 [.ref 211, .int (nI c), .int (nI n), .int (s (315 + 24 * c + 2)), .int (nI m)] [] (zQ h q' (nH s n (rmF s n 5 p) (fun _ => -4) (m - 1))) := by
  have hH := q_has S (q := q) hn hm em (key := s (315 + 24 * c + 2)) (u3 := .double 0) (u4 := .double 0)
  rw [hb] at hH
  obtain ⟨bk, bc, eB, hB⟩ := q_tkL S (c := c) hn hm hp em hk hne (wo := q.2.2.2) m 0 q.1 q.2.1 0 (by omega) (by rw [if_neg (by omega)]) (fun t ht => absurd ht (Nat.not_lt_zero t))
  have hN := q_nh0 S (s := s) (n := n) (k := m - 1) (bk := bk) (bc := bc) (g := rmF s n 5 p) (gc := fun _ => -4) (wo := q.2.2.2) (b2 := nI (m - 1)) (u4 := .double 0) hn (by omega) (fun t ht => (hB t ht).1) (fun t ht => (hB t ht).2)
  rw [nI_0] at eB
  refine ⟨(bk, bc, nI (m - 1), q.2.2.2), rfl, rfl, ?_⟩
  simp +decide only [b166_0, b166_6, b166_13, b166_20, b166_30, b166_83, q_oc3, q_oc2, hH, zi_bI_t, eB, hN, e, S, hc, hn, zQ_n, zQ_k, zQ_r, zQ_w, zQ_212, zQ_2115, zQ_wm, S.n, S.k, S.r, kx_211, kx_212, rx_211_0, Option.bind_some, Option.toList_some, Option.toList_none, List.cons_append, List.nil_append, List.append_nil, zq_rf, or_false, false_or, or_true, true_or, not_false_eq_true, not_true_eq_false, and_true, true_and, and_false, false_and, and_self, or_self, ite_true, ite_false, ↓reduceIte, Int32.reduceAdd, Int32.reduceSub, Int32.reduceMul, Int32.reduceDiv, Int32.reduceLT, Int32.reduceLE, Int32.reduceToNatClampNeg, Int32.reduceToInt, Int32.reduceOfNat, Nat.reduceAdd, Nat.reduceSub, Nat.reduceMul, Nat.reduceLeDiff, Nat.reduceEqDiff]
theorem q_tkA (S : Sh h) {c n m p : Nat} (hc : c < 3) (hn : n < 24) (hm : m ≤ 4) (hp : p < m) (em : s (13 * n + 1) = nI m) (e : s (315 + 24 * c + 3) = nI n) (hb : hkF s n (s (315 + 24 * c + 2)) m = true) (hk : s (13 * n + (5 + p)) = s (315 + 24 * c + 2)) (hne : ∀ i, i < m → i ≠ p → ¬ s (13 * n + (5 + i)) = s (315 + 24 * c + 2)) (hl : 1 < m ∨ s (13 * n + 3) = -4) {u2 u3 u4 : Value} : ∃ q', q'.2.2.2 = q.2.2.2 ∧ zv 4 166 0 [.ref 211, .int (nI c), u2, u3, u4] [] (zQ h q s) = some (some (.int 3), zQ h q' (up (up (nH s n (rmF s n 5 p) (fun _ => -4) (m - 1)) (315 + 24 * c + 4) 1) (315 + 24 * c) 5)) := by
  obtain ⟨q', hw, e5, eQ⟩ := q_tkH S (q := q) hc hn hm hp em e hb hk hne (u2 := u2) (u3 := u3) (u4 := u4)
  refine ⟨q', hw, ?_⟩
  rw [eQ]
  have e3 : nH s n (rmF s n 5 p) (fun _ => -4) (m - 1) (13 * n + 3) = s (13 * n + 3) := nH_o (by omega) (by omega)
  by_cases h1 : 1 < m
  · have hx : (0 : Int32) < nI (m - 1) := nI_lt (a := 0) (by omega) (by omega)
    simp +decide only [b166_93, b166_100, b166_106, b166_111, b166_117, e5, hx, q_an, S, hc, hn, zQ_n, zQ_k, zQ_r, zQ_w, zQ_212, zQ_2115, zQ_wm, S.n, S.k, S.r, kx_211, kx_212, rx_211_0, Option.bind_some, Option.toList_some, Option.toList_none, List.cons_append, List.nil_append, List.append_nil, zq_rf, or_false, false_or, or_true, true_or, not_false_eq_true, not_true_eq_false, and_true, true_and, and_false, false_and, and_self, or_self, ite_true, ite_false, ↓reduceIte, Int32.reduceAdd, Int32.reduceSub, Int32.reduceMul, Int32.reduceDiv, Int32.reduceLT, Int32.reduceLE, Int32.reduceToNatClampNeg, Int32.reduceToInt, Int32.reduceOfNat, Nat.reduceAdd, Nat.reduceSub, Nat.reduceMul, Nat.reduceLeDiff, Nat.reduceEqDiff]
  · have hx : ¬ (0 : Int32) < nI (m - 1) := nI_nlt (b := 0 ) (a := 0) (Nat.le_refl _) (by decide) |> fun w => by rw [show m - 1 = 0 by omega]; exact w
    have h3 : s (13 * n + 3) = -4 := hl.resolve_left h1
    simp +decide only [b166_93, b166_100, b166_106, b166_111, b166_117, e5, hx, q_of3, e3, h3, q_an, S, hc, hn, zQ_n, zQ_k, zQ_r, zQ_w, zQ_212, zQ_2115, zQ_wm, S.n, S.k, S.r, kx_211, kx_212, rx_211_0, Option.bind_some, Option.toList_some, Option.toList_none, List.cons_append, List.nil_append, List.append_nil, zq_rf, or_false, false_or, or_true, true_or, not_false_eq_true, not_true_eq_false, and_true, true_and, and_false, false_and, and_self, or_self, ite_true, ite_false, ↓reduceIte, Int32.reduceAdd, Int32.reduceSub, Int32.reduceMul, Int32.reduceDiv, Int32.reduceLT, Int32.reduceLE, Int32.reduceToNatClampNeg, Int32.reduceToInt, Int32.reduceOfNat, Nat.reduceAdd, Nat.reduceSub, Nat.reduceMul, Nat.reduceLeDiff, Nat.reduceEqDiff]
theorem q_tkD (S : Sh h) {c n : Nat} (hc : c < 3) (hn : n < 24) (em : s (13 * n + 1) = nI 1) (e : s (315 + 24 * c + 3) = nI n) (hb : hkF s n (s (315 + 24 * c + 2)) 1 = true) (hk : s (13 * n + (5 + 0)) = s (315 + 24 * c + 2)) (hl : ¬ s (13 * n + 3) = -4) {u2 u3 u4 : Value} : ∃ q', q'.2.2.2 = q.2.2.2 ∧ zv 4 166 0 [.ref 211, .int (nI c), u2, u3, u4] [] (zQ h q s) = some (some (.int 6), zQ h q' (poF (up (up (nH s n (rmF s n 5 0) (fun _ => -4) 0) (315 + 24 * c + 4) 1) (13 * n + 4) 1) c 1 (s (13 * n + 2)) (nI n) 1)) := by
  obtain ⟨q', hw, e5, eQ⟩ := q_tkH S (q := q) hc hn (m := 1) (p := 0) (by decide) (by decide) em e hb hk (fun i h1 h2 => absurd h2 (by omega)) (u2 := u2) (u3 := u3) (u4 := u4)
  refine ⟨q', hw, ?_⟩
  rw [eQ]
  have e3 : nH s n (rmF s n 5 0) (fun _ => -4) 0 (13 * n + 3) = s (13 * n + 3) := nH_o (by omega) (by omega)
  have e2 : nH s n (rmF s n 5 0) (fun _ => -4) 0 (13 * n + 2) = s (13 * n + 2) := nH_o (by omega) (by omega)
  have e50 : q'.2.2.1 = 0 := e5
  have hP : ∀ {q2 : zQs} {s2 : Nat → Int32} {mid what : Int32}, zv 2 156 0 [.ref 211, .int (nI c), .int mid, .int what, .int 1, .int 1, .double 0] [] (zQ h q2 s2) = some (none, zQ h q2 (poF s2 c 1 mid what 1)) := fun {q2 s2 mid what} => q_po S hc (t := 1) (by decide)
  simp +decide only [b166_93, b166_100, b166_106, b166_118, b166_125, b166_132, b166_140, b166_146, e50, q_of3, q_of2, e3, hl, q_cb4, q_nb4, un_nn, uc_n, e2, hP, Nat.sub_self, S, hc, hn, zQ_n, zQ_k, zQ_r, zQ_w, zQ_212, zQ_2115, zQ_wm, S.n, S.k, S.r, kx_211, kx_212, rx_211_0, Option.bind_some, Option.toList_some, Option.toList_none, List.cons_append, List.nil_append, List.append_nil, zq_rf, or_false, false_or, or_true, true_or, not_false_eq_true, not_true_eq_false, and_true, true_and, and_false, false_and, and_self, or_self, ite_true, ite_false, ↓reduceIte, Int32.reduceAdd, Int32.reduceSub, Int32.reduceMul, Int32.reduceDiv, Int32.reduceLT, Int32.reduceLE, Int32.reduceToNatClampNeg, Int32.reduceToInt, Int32.reduceOfNat, Nat.reduceAdd, Nat.reduceSub, Nat.reduceMul, Nat.reduceLeDiff, Nat.reduceEqDiff]
theorem q_nr (S : Sh h) {c v : Nat} (hc : c < 3) (hv : v < 24) (ev : s 312 = nI v) {u : Value} : ∃ q', q'.2.2.2 = q.2.2.2 ∧ zv 3 167 0 [.ref 211, .int (nI c), u] [] (zQ h q s) = some (some (.int 7), zQ h q' (up (up (nH (nnF s v (s (315 + 24 * c + 10)) 100 (-4)) v (fun i => if i = 0 then s (315 + 24 * c + 8) else 100) (fun i => if i = 0 then s 313 else s (315 + 24 * c + 9)) 2) 313 (nI v)) (315 + 24 * c) 5)) := by
  have hA : ∀ {s2 : Nat → Int32} {bk bc : Nat → Int32} {wo : Nat → Bool} {k2 c2 : Int32}, zv 1 153 0 [.ref 211, .int k2, .int c2] [] (zQ h (bk, bc, 0, wo) s2) = some (none, zQ h (up bk 0 k2, up bc 0 c2, 1, wo) s2) := fun {s2 bk bc wo k2 c2} => q_ba S (q := (bk, bc, 0, wo)) (m := 0) (by decide) rfl
  have hB : ∀ {s2 : Nat → Int32} {bk bc : Nat → Int32} {wo : Nat → Bool} {k2 c2 : Int32}, zv 1 153 0 [.ref 211, .int k2, .int c2] [] (zQ h (bk, bc, 1, wo) s2) = some (none, zQ h (up bk 1 k2, up bc 1 c2, 2, wo) s2) := fun {s2 bk bc wo k2 c2} => q_ba S (q := (bk, bc, 1, wo)) (m := 1) (by decide) rfl
  have hN : ∀ {s2 : Nat → Int32}, zv 2 154 0 [.ref 211, .int (nI v), .int 0, .int 2, .double 0] [] (zQ h (up (up q.1 0 (s (315 + 24 * c + 8))) 1 100, up (up q.2.1 0 (s 313)) 1 (s (315 + 24 * c + 9)), 2, q.2.2.2) s2) = some (none, zQ h (up (up q.1 0 (s (315 + 24 * c + 8))) 1 100, up (up q.2.1 0 (s 313)) 1 (s (315 + 24 * c + 9)), 2, q.2.2.2) (nH s2 v (fun i => if i = 0 then s (315 + 24 * c + 8) else 100) (fun i => if i = 0 then s 313 else s (315 + 24 * c + 9)) 2)) := by
    intro s2
    refine q_nh0 S (k := 2) hv (by decide) (fun t ht => ?_) (fun t ht => ?_)
    · have : t = 0 ∨ t = 1 := by omega
      rcases this with rfl | rfl <;> rfl
    · have : t = 0 ∨ t = 1 := by omega
      rcases this with rfl | rfl <;> rfl
  have hV : ∀ {q2 : zQs}, zv 2 155 0 [.ref 211, .int (s (315 + 24 * c + 10)), .int 100, .int (-4), .double 0] [] (zQ h q2 s) = some (some (.int (nI v)), zQ h q2 (nnF s v (s (315 + 24 * c + 10)) 100 (-4))) := fun {q2} => q_nn S hv ev
  refine ⟨(up (up q.1 0 (s (315 + 24 * c + 8))) 1 100, up (up q.2.1 0 (s 313)) 1 (s (315 + 24 * c + 9)), 2, q.2.2.2), rfl, ?_⟩
  simp +decide only [b167_0, b167_13, b167_24, b167_34, b167_37, b167_45, b167_52, b167_60, b167_76, q_oc8, q_oc9, q_oc10, hA, hB, hN, hV, q_en, S, hc, zQ_n, zQ_k, zQ_r, zQ_w, zQ_212, zQ_2115, zQ_wm, S.n, S.k, S.r, kx_211, kx_212, rx_211_0, Option.bind_some, Option.toList_some, Option.toList_none, List.cons_append, List.nil_append, List.append_nil, zq_rf, or_false, false_or, or_true, true_or, not_false_eq_true, not_true_eq_false, and_true, true_and, and_false, false_and, and_self, or_self, ite_true, ite_false, ↓reduceIte, Int32.reduceAdd, Int32.reduceSub, Int32.reduceMul, Int32.reduceDiv, Int32.reduceLT, Int32.reduceLE, Int32.reduceToNatClampNeg, Int32.reduceToInt, Int32.reduceOfNat, Nat.reduceAdd, Nat.reduceSub, Nat.reduceMul, Nat.reduceLeDiff, Nat.reduceEqDiff]
theorem q_poE (S : Sh h) {c n r : Nat} (hc : c < 3) (hn : n < 24) (hr : r < 24) (e : s (315 + 24 * c + 3) = nI n) (er : s 313 = nI r) (hl : s (13 * r) < s (315 + 24 * c + 10)) (hd : s (315 + 24 * c + 11) = 1 ∨ s 312 = 24) {u2 u3 : Value} : zv 4 168 0 [.ref 211, .int (nI c), u2, u3] [] (zQ h q s) = some (some (.int 3), zQ h q (up s (315 + 24 * c) 5)) := by
  by_cases h1 : s (315 + 24 * c + 11) = 1
  · simp +decide only [b168_0, b168_6, b168_14, b168_28, b168_32, b168_39, b168_43, b168_56, b168_62, b168_65, b168_70, b168_71, b168_77, b168_81, b168_95, b168_98, b168_105, b168_111, b168_114, b168_119, b168_120, b168_126, b168_130, b168_139, b168_142, b168_145, b168_151, q_oc3, q_oc10, q_oc11, q_of0, e, er, hr, hl, h1, q_en, S, hc, hn, zQ_n, zQ_k, zQ_r, zQ_w, zQ_212, zQ_2115, zQ_wm, S.n, S.k, S.r, kx_211, kx_212, rx_211_0, Option.bind_some, Option.toList_some, Option.toList_none, List.cons_append, List.nil_append, List.append_nil, zq_rf, or_false, false_or, or_true, true_or, not_false_eq_true, not_true_eq_false, and_true, true_and, and_false, false_and, and_self, or_self, ite_true, ite_false, ↓reduceIte, Int32.reduceAdd, Int32.reduceSub, Int32.reduceMul, Int32.reduceDiv, Int32.reduceLT, Int32.reduceLE, Int32.reduceToNatClampNeg, Int32.reduceToInt, Int32.reduceOfNat, Nat.reduceAdd, Nat.reduceSub, Nat.reduceMul, Nat.reduceLeDiff, Nat.reduceEqDiff]
  · have h2 : s 312 = 24 := hd.resolve_left h1
    simp +decide only [b168_0, b168_6, b168_14, b168_28, b168_32, b168_39, b168_43, b168_56, b168_62, b168_65, b168_70, b168_71, b168_77, b168_81, b168_95, b168_98, b168_105, b168_111, b168_114, b168_119, b168_120, b168_126, b168_130, b168_139, b168_142, b168_145, b168_151, q_oc3, q_oc10, q_oc11, q_of0, e, er, hr, hl, h1, h2, q_en, S, hc, hn, zQ_n, zQ_k, zQ_r, zQ_w, zQ_212, zQ_2115, zQ_wm, S.n, S.k, S.r, kx_211, kx_212, rx_211_0, Option.bind_some, Option.toList_some, Option.toList_none, List.cons_append, List.nil_append, List.append_nil, zq_rf, or_false, false_or, or_true, true_or, not_false_eq_true, not_true_eq_false, and_true, true_and, and_false, false_and, and_self, or_self, ite_true, ite_false, ↓reduceIte, Int32.reduceAdd, Int32.reduceSub, Int32.reduceMul, Int32.reduceDiv, Int32.reduceLT, Int32.reduceLE, Int32.reduceToNatClampNeg, Int32.reduceToInt, Int32.reduceOfNat, Nat.reduceAdd, Nat.reduceSub, Nat.reduceMul, Nat.reduceLeDiff, Nat.reduceEqDiff]
theorem q_poN (S : Sh h) {c n r v : Nat} (hc : c < 3) (hn : n < 24) (hr : r < 24) (hv : v < 24) (e : s (315 + 24 * c + 3) = nI n) (er : s 313 = nI r) (hl : s (13 * r) < s (315 + 24 * c + 10)) (h1 : ¬ s (315 + 24 * c + 11) = 1) (ev : s 312 = nI v) {u2 u3 : Value} : ∃ q', q'.2.2.2 = q.2.2.2 ∧ zv 4 168 0 [.ref 211, .int (nI c), u2, u3] [] (zQ h q s) = some (some (.int 7), zQ h q' (up (up (nH (nnF s v (s (315 + 24 * c + 10)) 100 (-4)) v (fun i => if i = 0 then s (315 + 24 * c + 8) else 100) (fun i => if i = 0 then s 313 else s (315 + 24 * c + 9)) 2) 313 (nI v)) (315 + 24 * c) 5)) := by
  obtain ⟨q', hw, eQ⟩ := q_nr S (q := q) hc hv ev (u := .double 0)
  have h24 : ¬ nI v = 24 := fun w => absurd ((nI_eq (a := v) (b := 24) (by omega) (by decide)).mp w) (by omega)
  refine ⟨q', hw, ?_⟩
  simp +decide only [b168_0, b168_6, b168_14, b168_28, b168_32, b168_39, b168_43, b168_56, b168_62, b168_65, b168_70, b168_71, b168_77, b168_81, b168_95, b168_98, b168_105, b168_111, b168_114, b168_119, b168_120, b168_126, b168_130, b168_139, b168_142, b168_145, b168_151, q_oc3, q_oc10, q_oc11, q_of0, e, er, hr, hl, h1, ev, h24, eQ, S, hc, hn, zQ_n, zQ_k, zQ_r, zQ_w, zQ_212, zQ_2115, zQ_wm, S.n, S.k, S.r, kx_211, kx_212, rx_211_0, Option.bind_some, Option.toList_some, Option.toList_none, List.cons_append, List.nil_append, List.append_nil, zq_rf, or_false, false_or, or_true, true_or, not_false_eq_true, not_true_eq_false, and_true, true_and, and_false, false_and, and_self, or_self, ite_true, ite_false, ↓reduceIte, Int32.reduceAdd, Int32.reduceSub, Int32.reduceMul, Int32.reduceDiv, Int32.reduceLT, Int32.reduceLE, Int32.reduceToNatClampNeg, Int32.reduceToInt, Int32.reduceOfNat, Nat.reduceAdd, Nat.reduceSub, Nat.reduceMul, Nat.reduceLeDiff, Nat.reduceEqDiff]
theorem q_poT (S : Sh h) {c n r : Nat} (hc : c < 3) (hn : n < 24) (hr : r < 24) (e : s (315 + 24 * c + 3) = nI n) (er : s 313 = nI r) (hl : ¬ s (13 * r) < s (315 + 24 * c + 10)) (h1 : s (13 * n) < s (315 + 24 * c + 10)) {u2 u3 : Value} : zv 4 168 0 [.ref 211, .int (nI c), u2, u3] [] (zQ h q s) = some (some (.int 9), zQ h q (up s (315 + 24 * c + 3) (nI r))) := by
  simp +decide only [b168_0, b168_6, b168_14, b168_28, b168_32, b168_39, b168_43, b168_56, b168_62, b168_65, b168_70, b168_71, b168_77, b168_81, b168_95, b168_98, b168_105, b168_111, b168_114, b168_119, b168_120, b168_126, b168_130, b168_139, b168_142, b168_145, b168_151, q_oc3, q_oc10, q_of0, q_cb3, e, er, hr, hl, h1, S, hc, hn, zQ_n, zQ_k, zQ_r, zQ_w, zQ_212, zQ_2115, zQ_wm, S.n, S.k, S.r, kx_211, kx_212, rx_211_0, Option.bind_some, Option.toList_some, Option.toList_none, List.cons_append, List.nil_append, List.append_nil, zq_rf, or_false, false_or, or_true, true_or, not_false_eq_true, not_true_eq_false, and_true, true_and, and_false, false_and, and_self, or_self, ite_true, ite_false, ↓reduceIte, Int32.reduceAdd, Int32.reduceSub, Int32.reduceMul, Int32.reduceDiv, Int32.reduceLT, Int32.reduceLE, Int32.reduceToNatClampNeg, Int32.reduceToInt, Int32.reduceOfNat, Nat.reduceAdd, Nat.reduceSub, Nat.reduceMul, Nat.reduceLeDiff, Nat.reduceEqDiff]
theorem q_poR (S : Sh h) {c n r : Nat} (hc : c < 3) (hn : n < 24) (hr : r < 24) (e : s (315 + 24 * c + 3) = nI n) (er : s 313 = nI r) (hl : ¬ s (13 * r) < s (315 + 24 * c + 10)) (h1 : ¬ s (13 * n) < s (315 + 24 * c + 10)) (h2 : s (13 * n + 2) < s (315 + 24 * c + 8)) {u2 u3 : Value} : zv 4 168 0 [.ref 211, .int (nI c), u2, u3] [] (zQ h q s) = some (some (.int 1), zQ h q (up s (315 + 24 * c + 3) (s (13 * n + 3)))) := by
  have hG := q_gr S (q := q) hc hn e
  simp +decide only [b168_0, b168_6, b168_14, b168_28, b168_32, b168_39, b168_43, b168_56, b168_62, b168_65, b168_70, b168_71, b168_77, b168_81, b168_95, b168_98, b168_105, b168_111, b168_114, b168_119, b168_120, b168_126, b168_130, b168_139, b168_142, b168_145, b168_151, q_oc3, q_oc10, q_oc8, q_of0, q_of2, hG, e, er, hr, hl, h1, h2, S, hc, hn, zQ_n, zQ_k, zQ_r, zQ_w, zQ_212, zQ_2115, zQ_wm, S.n, S.k, S.r, kx_211, kx_212, rx_211_0, Option.bind_some, Option.toList_some, Option.toList_none, List.cons_append, List.nil_append, List.append_nil, zq_rf, or_false, false_or, or_true, true_or, not_false_eq_true, not_true_eq_false, and_true, true_and, and_false, false_and, and_self, or_self, ite_true, ite_false, ↓reduceIte, Int32.reduceAdd, Int32.reduceSub, Int32.reduceMul, Int32.reduceDiv, Int32.reduceLT, Int32.reduceLE, Int32.reduceToNatClampNeg, Int32.reduceToInt, Int32.reduceOfNat, Nat.reduceAdd, Nat.reduceSub, Nat.reduceMul, Nat.reduceLeDiff, Nat.reduceEqDiff]
theorem q_poC (S : Sh h) {c n r j : Nat} (hc : c < 3) (hn : n < 24) (hr : r < 24) (hj : j < 4) (e : s (315 + 24 * c + 3) = nI n) (er : s 313 = nI r) (hl : ¬ s (13 * r) < s (315 + 24 * c + 10)) (h1 : ¬ s (13 * n) < s (315 + 24 * c + 10)) (h2 : ¬ s (13 * n + 2) < s (315 + 24 * c + 8)) (h3 : s (315 + 24 * c + 10) < s (13 * n)) (hlt : ∀ i, i < j → s (13 * n + (5 + i)) < s (315 + 24 * c + 8)) (hge : ¬ s (13 * n + (5 + j)) < s (315 + 24 * c + 8)) {u2 u3 : Value} : zv 4 168 0 [.ref 211, .int (nI c), u2, u3] [] (zQ h q s) = some (some (.int 2), zQ h q (up s (315 + 24 * c + 3) (s (13 * n + (9 + j))))) := by
  have hG := q_gd S (q := q) hc hn hj e hlt hge (u := .double 0)
  simp +decide only [b168_0, b168_6, b168_14, b168_28, b168_32, b168_39, b168_43, b168_56, b168_62, b168_65, b168_70, b168_71, b168_77, b168_81, b168_95, b168_98, b168_105, b168_111, b168_114, b168_119, b168_120, b168_126, b168_130, b168_139, b168_142, b168_145, b168_151, q_oc3, q_oc10, q_oc8, q_of0, q_of2, hG, e, er, hr, hl, h1, h2, h3, S, hc, hn, zQ_n, zQ_k, zQ_r, zQ_w, zQ_212, zQ_2115, zQ_wm, S.n, S.k, S.r, kx_211, kx_212, rx_211_0, Option.bind_some, Option.toList_some, Option.toList_none, List.cons_append, List.nil_append, List.append_nil, zq_rf, or_false, false_or, or_true, true_or, not_false_eq_true, not_true_eq_false, and_true, true_and, and_false, false_and, and_self, or_self, ite_true, ite_false, ↓reduceIte, Int32.reduceAdd, Int32.reduceSub, Int32.reduceMul, Int32.reduceDiv, Int32.reduceLT, Int32.reduceLE, Int32.reduceToNatClampNeg, Int32.reduceToInt, Int32.reduceOfNat, Nat.reduceAdd, Nat.reduceSub, Nat.reduceMul, Nat.reduceLeDiff, Nat.reduceEqDiff]
theorem q_poL (S : Sh h) {c n r : Nat} (hc : c < 3) (hn : n < 24) (hr : r < 24) (e : s (315 + 24 * c + 3) = nI n) (er : s 313 = nI r) (hl : ¬ s (13 * r) < s (315 + 24 * c + 10)) (h1 : ¬ s (13 * n) < s (315 + 24 * c + 10)) (h2 : ¬ s (13 * n + 2) < s (315 + 24 * c + 8)) (h3 : ¬ s (315 + 24 * c + 10) < s (13 * n)) {u2 u3 : Value} : zv 4 168 0 [.ref 211, .int (nI c), u2, u3] [] (zQ h q s) = if lkB s (nI n) = -4 then some (some (.int 4), zQ h q (up s (315 + 24 * c) 4)) else some (some (.int 0), zQ h q s) := by
  have hG := q_lo S (q := q) (s := s) hc (x := 4)
  rw [e] at hG
  by_cases h9 : lkB s (nI n) = -4
  · rw [if_pos h9] at hG
    simp +decide only [b168_0, b168_6, b168_14, b168_28, b168_32, b168_39, b168_43, b168_56, b168_62, b168_65, b168_70, b168_71, b168_77, b168_81, b168_95, b168_98, b168_105, b168_111, b168_114, b168_119, b168_120, b168_126, b168_130, b168_139, b168_142, b168_145, b168_151, q_oc3, q_oc10, q_oc8, q_of0, q_of2, hG, h9, e, er, hr, hl, h1, h2, h3, S, hc, hn, zQ_n, zQ_k, zQ_r, zQ_w, zQ_212, zQ_2115, zQ_wm, S.n, S.k, S.r, kx_211, kx_212, rx_211_0, Option.bind_some, Option.toList_some, Option.toList_none, List.cons_append, List.nil_append, List.append_nil, zq_rf, or_false, false_or, or_true, true_or, not_false_eq_true, not_true_eq_false, and_true, true_and, and_false, false_and, and_self, or_self, ite_true, ite_false, ↓reduceIte, Int32.reduceAdd, Int32.reduceSub, Int32.reduceMul, Int32.reduceDiv, Int32.reduceLT, Int32.reduceLE, Int32.reduceToNatClampNeg, Int32.reduceToInt, Int32.reduceOfNat, Nat.reduceAdd, Nat.reduceSub, Nat.reduceMul, Nat.reduceLeDiff, Nat.reduceEqDiff]
  · rw [if_neg h9] at hG
    simp +decide only [b168_0, b168_6, b168_14, b168_28, b168_32, b168_39, b168_43, b168_56, b168_62, b168_65, b168_70, b168_71, b168_77, b168_81, b168_95, b168_98, b168_105, b168_111, b168_114, b168_119, b168_120, b168_126, b168_130, b168_139, b168_142, b168_145, b168_151, q_oc3, q_oc10, q_oc8, q_of0, q_of2, hG, h9, e, er, hr, hl, h1, h2, h3, S, hc, hn, zQ_n, zQ_k, zQ_r, zQ_w, zQ_212, zQ_2115, zQ_wm, S.n, S.k, S.r, kx_211, kx_212, rx_211_0, Option.bind_some, Option.toList_some, Option.toList_none, List.cons_append, List.nil_append, List.append_nil, zq_rf, or_false, false_or, or_true, true_or, not_false_eq_true, not_true_eq_false, and_true, true_and, and_false, false_and, and_self, or_self, ite_true, ite_false, ↓reduceIte, Int32.reduceAdd, Int32.reduceSub, Int32.reduceMul, Int32.reduceDiv, Int32.reduceLT, Int32.reduceLE, Int32.reduceToNatClampNeg, Int32.reduceToInt, Int32.reduceOfNat, Nat.reduceAdd, Nat.reduceSub, Nat.reduceMul, Nat.reduceLeDiff, Nat.reduceEqDiff]
theorem q_adE (S : Sh h) {c n m j : Nat} (hc : c < 3) (hn : n < 24) (hm : m ≤ 4) (hm0 : 0 < m) (hj : j < 4) (e : s (315 + 24 * c + 3) = nI n) (em : s (13 * n + 1) = nI m) (hlt : ∀ i, i < j → s (13 * n + (5 + i)) < s (315 + 24 * c + 8)) (hge : ¬ s (13 * n + (5 + j)) < s (315 + 24 * c + 8)) (hx : ¬ s (13 * n + (5 + j)) = s (315 + 24 * c + 8) ∨ ¬ s (13 * n + (9 + j)) = s (315 + 24 * c + 9) ∨ j + 1 = m) {u2 u3 : Value} : zv 3 170 0 [.ref 211, .int (nI c), u2, u3] [] (zQ h q s) = some (some (.int 3), zQ h q (up s (315 + 24 * c) 5)) := by
  have hE := q_ef S (q := q) (s := s) hn (j := j) (by omega) hlt hge (u3 := .double 0)
  have e5 : (5 : Int32) + nI j = nI (5 + j) := nI_add 5 j
  have e9 : (9 : Int32) + nI j = nI (9 + j) := nI_add 9 j
  have h5 : 5 + j < 13 := by omega
  have h9 : 9 + j < 13 := by omega
  have em1 : nI m - 1 = nI (m - 1) := by rw [show (1 : Int32) = nI 1 from rfl, nI_sub (by omega)]
  by_cases a1 : s (13 * n + (5 + j)) = s (315 + 24 * c + 8)
  · by_cases a2 : s (13 * n + (9 + j)) = s (315 + 24 * c + 9)
    · have a3 : nI (m - 1) = nI j := by
        rcases hx with hx | hx | hx
        · exact absurd a1 hx
        · exact absurd a2 hx
        · rw [show j = m - 1 by omega]
      simp +decide only [b170_0, b170_6, b170_16, b170_19, b170_28, b170_35, b170_38, b170_47, b170_54, b170_57, b170_64, b170_69, b170_75, b170_76, b170_82, b170_92, b170_99, q_oc3, q_oc8, q_oc9, q_of, q_of1, hE, e5, e9, h5, h9, em, em1, a1, a2, a3, e, q_en, S, hc, hn, zQ_n, zQ_k, zQ_r, zQ_w, zQ_212, zQ_2115, zQ_wm, S.n, S.k, S.r, kx_211, kx_212, rx_211_0, Option.bind_some, Option.toList_some, Option.toList_none, List.cons_append, List.nil_append, List.append_nil, zq_rf, or_false, false_or, or_true, true_or, not_false_eq_true, not_true_eq_false, and_true, true_and, and_false, false_and, and_self, or_self, ite_true, ite_false, ↓reduceIte, Int32.reduceAdd, Int32.reduceSub, Int32.reduceMul, Int32.reduceDiv, Int32.reduceLT, Int32.reduceLE, Int32.reduceToNatClampNeg, Int32.reduceToInt, Int32.reduceOfNat, Nat.reduceAdd, Nat.reduceSub, Nat.reduceMul, Nat.reduceLeDiff, Nat.reduceEqDiff]
    · simp +decide only [b170_0, b170_6, b170_16, b170_19, b170_28, b170_35, b170_38, b170_47, b170_54, b170_57, b170_64, b170_69, b170_75, b170_76, b170_82, b170_92, b170_99, q_oc3, q_oc8, q_oc9, q_of, q_of1, hE, e5, e9, h5, h9, a1, a2, e, q_en, S, hc, hn, zQ_n, zQ_k, zQ_r, zQ_w, zQ_212, zQ_2115, zQ_wm, S.n, S.k, S.r, kx_211, kx_212, rx_211_0, Option.bind_some, Option.toList_some, Option.toList_none, List.cons_append, List.nil_append, List.append_nil, zq_rf, or_false, false_or, or_true, true_or, not_false_eq_true, not_true_eq_false, and_true, true_and, and_false, false_and, and_self, or_self, ite_true, ite_false, ↓reduceIte, Int32.reduceAdd, Int32.reduceSub, Int32.reduceMul, Int32.reduceDiv, Int32.reduceLT, Int32.reduceLE, Int32.reduceToNatClampNeg, Int32.reduceToInt, Int32.reduceOfNat, Nat.reduceAdd, Nat.reduceSub, Nat.reduceMul, Nat.reduceLeDiff, Nat.reduceEqDiff]
  · simp +decide only [b170_0, b170_6, b170_16, b170_19, b170_28, b170_35, b170_38, b170_47, b170_54, b170_57, b170_64, b170_69, b170_75, b170_76, b170_82, b170_92, b170_99, q_oc3, q_oc8, q_oc9, q_of, q_of1, hE, e5, e9, h5, h9, a1, e, q_en, S, hc, hn, zQ_n, zQ_k, zQ_r, zQ_w, zQ_212, zQ_2115, zQ_wm, S.n, S.k, S.r, kx_211, kx_212, rx_211_0, Option.bind_some, Option.toList_some, Option.toList_none, List.cons_append, List.nil_append, List.append_nil, zq_rf, or_false, false_or, or_true, true_or, not_false_eq_true, not_true_eq_false, and_true, true_and, and_false, false_and, and_self, or_self, ite_true, ite_false, ↓reduceIte, Int32.reduceAdd, Int32.reduceSub, Int32.reduceMul, Int32.reduceDiv, Int32.reduceLT, Int32.reduceLE, Int32.reduceToNatClampNeg, Int32.reduceToInt, Int32.reduceOfNat, Nat.reduceAdd, Nat.reduceSub, Nat.reduceMul, Nat.reduceLeDiff, Nat.reduceEqDiff]
theorem q_adR (S : Sh h) {c n m j : Nat} (hc : c < 3) (hn : n < 24) (hm : m ≤ 4) (hjm : j + 1 < m) (e : s (315 + 24 * c + 3) = nI n) (em : s (13 * n + 1) = nI m) (hlt : ∀ i, i < j → s (13 * n + (5 + i)) < s (315 + 24 * c + 8)) (a1 : s (13 * n + (5 + j)) = s (315 + 24 * c + 8)) (a2 : s (13 * n + (9 + j)) = s (315 + 24 * c + 9)) {u2 u3 : Value} : ∃ q', q'.2.2.2 = q.2.2.2 ∧ zv 3 170 0 [.ref 211, .int (nI c), u2, u3] [] (zQ h q s) = some (some (.int 8), zQ h q' (up (nH s n (rmF s n 5 j) (rmF s n 9 j) (m - 1)) (315 + 24 * c) 5)) := by
  have hE := q_ef S (q := q) (s := s) hn (j := j) (by omega) hlt (by rw [a1]; exact Int32.lt_irrefl) (u3 := .double 0)
  have e5 : (5 : Int32) + nI j = nI (5 + j) := nI_add 5 j
  have e9 : (9 : Int32) + nI j = nI (9 + j) := nI_add 9 j
  have h5 : 5 + j < 13 := by omega
  have h9 : 9 + j < 13 := by omega
  have em1 : nI m - 1 = nI (m - 1) := by rw [show (1 : Int32) = nI 1 from rfl, nI_sub (by omega)]
  have a3 : ¬ nI j = nI (m - 1) := fun w => absurd ((nI_eq (by omega) (by omega)).mp w) (by omega)
  obtain ⟨bk, bc, eB, hB⟩ := q_be S hn hm (p := j) (by omega) em (q := q) (u3 := .double 0)
  have hN := q_nh0 S (s := s) (n := n) (k := m - 1) (bk := bk) (bc := bc) (g := rmF s n 5 j) (gc := rmF s n 9 j) (wo := q.2.2.2) (b2 := nI (m - 1)) (u4 := .double 0) hn (by omega) (fun t ht => (hB t ht).1) (fun t ht => (hB t ht).2)
  refine ⟨(bk, bc, nI (m - 1), q.2.2.2), rfl, ?_⟩
  simp +decide only [b170_0, b170_6, b170_16, b170_19, b170_28, b170_35, b170_38, b170_47, b170_54, b170_57, b170_64, b170_69, b170_75, b170_76, b170_82, b170_92, b170_99, q_oc3, q_oc8, q_oc9, q_of, q_of1, hE, e5, e9, h5, h9, em, em1, a1, a2, a3, eB, hN, e, q_en, S, hc, hn, zQ_n, zQ_k, zQ_r, zQ_w, zQ_212, zQ_2115, zQ_wm, S.n, S.k, S.r, kx_211, kx_212, rx_211_0, Option.bind_some, Option.toList_some, Option.toList_none, List.cons_append, List.nil_append, List.append_nil, zq_rf, or_false, false_or, or_true, true_or, not_false_eq_true, not_true_eq_false, and_true, true_and, and_false, false_and, and_self, or_self, ite_true, ite_false, ↓reduceIte, Int32.reduceAdd, Int32.reduceSub, Int32.reduceMul, Int32.reduceDiv, Int32.reduceLT, Int32.reduceLE, Int32.reduceToNatClampNeg, Int32.reduceToInt, Int32.reduceOfNat, Nat.reduceAdd, Nat.reduceSub, Nat.reduceMul, Nat.reduceLeDiff, Nat.reduceEqDiff]
theorem q_asE (S : Sh h) {c n j : Nat} (hc : c < 3) (hn : n < 24) (hj : j < 4) (e : s (315 + 24 * c + 3) = nI n) (hlt : ∀ i, i < j → s (13 * n + (5 + i)) < s (315 + 24 * c + 8)) (a1 : s (13 * n + (5 + j)) = s (315 + 24 * c + 8)) {u2 u3 u4 u5 : Value} : zv 4 171 0 [.ref 211, .int (nI c), u2, u3, u4, u5] [] (zQ h q s) = some (some (.int 3), zQ h q (up s (315 + 24 * c) 5)) := by
  have hE := q_ef S (q := q) (s := s) hn (j := j) (by omega) hlt (by rw [a1]; exact Int32.lt_irrefl) (u3 := .double 0)
  have e5 : (5 : Int32) + nI j = nI (5 + j) := nI_add 5 j
  have h5 : 5 + j < 13 := by omega
  simp +decide only [b171_0, b171_6, b171_14, b171_21, b171_32, b171_36, b171_42, q_oc3, q_oc8, q_of, hE, e5, h5, a1, e, q_en, S, hc, hn, zQ_n, zQ_k, zQ_r, zQ_w, zQ_212, zQ_2115, zQ_wm, S.n, S.k, S.r, kx_211, kx_212, rx_211_0, Option.bind_some, Option.toList_some, Option.toList_none, List.cons_append, List.nil_append, List.append_nil, zq_rf, or_false, false_or, or_true, true_or, not_false_eq_true, not_true_eq_false, and_true, true_and, and_false, false_and, and_self, or_self, ite_true, ite_false, ↓reduceIte, Int32.reduceAdd, Int32.reduceSub, Int32.reduceMul, Int32.reduceDiv, Int32.reduceLT, Int32.reduceLE, Int32.reduceToNatClampNeg, Int32.reduceToInt, Int32.reduceOfNat, Nat.reduceAdd, Nat.reduceSub, Nat.reduceMul, Nat.reduceLeDiff, Nat.reduceEqDiff]
theorem q_asI (S : Sh h) {c n m j : Nat} (hc : c < 3) (hn : n < 24) (hm : m ≤ 4) (hjm : j < m) (e : s (315 + 24 * c + 3) = nI n) (em : s (13 * n + 1) = nI m) (hlt : ∀ i, i < j → s (13 * n + (5 + i)) < s (315 + 24 * c + 8)) (hge : ¬ s (13 * n + (5 + j)) < s (315 + 24 * c + 8)) (a1 : ¬ s (13 * n + (5 + j)) = s (315 + 24 * c + 8)) {u2 u3 u4 u5 : Value} : ∃ bk bc, zv 4 171 0 [.ref 211, .int (nI c), u2, u3, u4, u5] [] (zQ h q s) = zv 4 171 130 [.ref 211, .int (nI c), .int (nI n), .int (s (315 + 24 * c + 8)), .int (nI j), .int (nI m)] [] (zQ h (bk, bc, nI (m + 1), q.2.2.2) s) ∧ ∀ t, t < m + 1 → bk t = blF s n j (s (315 + 24 * c + 8)) t ∧ bc t = icF s n j (s (315 + 24 * c + 9)) t := by
  have hE := q_ef S (q := q) (s := s) hn (j := j) (by omega) hlt hge (u3 := .double 0)
  have e5 : (5 : Int32) + nI j = nI (5 + j) := nI_add 5 j
  have h5 : 5 + j < 13 := by omega
  obtain ⟨bk, bc, eB, hB⟩ := q_isL S (c := c) hc hn hm hjm em (mid := s (315 + 24 * c + 8)) (wo := q.2.2.2) m 0 q.1 q.2.1 0 (by omega) (by rw [if_neg (by omega)]) (fun t ht => absurd ht (Nat.not_lt_zero t))
  rw [nI_0] at eB
  refine ⟨bk, bc, ?_, hB⟩
  simp +decide only [b171_0, b171_6, b171_14, b171_21, b171_32, b171_43, q_oc3, q_oc8, q_of, hE, e5, h5, a1, e, eB, S, hc, hn, zQ_n, zQ_k, zQ_r, zQ_w, zQ_212, zQ_2115, zQ_wm, S.n, S.k, S.r, kx_211, kx_212, rx_211_0, Option.bind_some, Option.toList_some, Option.toList_none, List.cons_append, List.nil_append, List.append_nil, zq_rf, or_false, false_or, or_true, true_or, not_false_eq_true, not_true_eq_false, and_true, true_and, and_false, false_and, and_self, or_self, ite_true, ite_false, ↓reduceIte, Int32.reduceAdd, Int32.reduceSub, Int32.reduceMul, Int32.reduceDiv, Int32.reduceLT, Int32.reduceLE, Int32.reduceToNatClampNeg, Int32.reduceToInt, Int32.reduceOfNat, Nat.reduceAdd, Nat.reduceSub, Nat.reduceMul, Nat.reduceLeDiff, Nat.reduceEqDiff]
theorem q_asF (S : Sh h) {c n m j M : Nat} (hc : c < 3) (hn : n < 24) (hm : m ≤ 4) (hjm : j < m) (e : s (315 + 24 * c + 3) = nI n) (em : s (13 * n + 1) = nI m) (hlt : ∀ i, i < j → s (13 * n + (5 + i)) < s (315 + 24 * c + 8)) (hge : ¬ s (13 * n + (5 + j)) < s (315 + 24 * c + 8)) (a1 : ¬ s (13 * n + (5 + j)) = s (315 + 24 * c + 8)) (eM : s 314 = nI M) (hM : M ≤ 4) (hf : m + 1 ≤ M) {u2 u3 u4 u5 : Value} : ∃ q', q'.2.2.2 = q.2.2.2 ∧ zv 4 171 0 [.ref 211, .int (nI c), u2, u3, u4, u5] [] (zQ h q s) = some (some (.int 8), zQ h q' (up (nH s n (blF s n j (s (315 + 24 * c + 8))) (icF s n j (s (315 + 24 * c + 9))) (m + 1)) (315 + 24 * c) 5)) := by
  obtain ⟨bk, bc, eB, hB⟩ := q_asI S (q := q) hc hn hm hjm e em hlt hge a1 (u2 := u2) (u3 := u3) (u4 := u4) (u5 := u5)
  have hN := q_nh0 S (s := s) (n := n) (k := m + 1) (bk := bk) (bc := bc) (g := blF s n j (s (315 + 24 * c + 8))) (gc := icF s n j (s (315 + 24 * c + 9))) (wo := q.2.2.2) (b2 := nI (m + 1)) (u4 := .double 0) hn (by omega) (fun t ht => (hB t ht).1) (fun t ht => (hB t ht).2)
  have hx : ¬ nI M < nI (m + 1) := nI_nlt hf (by omega)
  refine ⟨(bk, bc, nI (m + 1), q.2.2.2), rfl, ?_⟩
  rw [eB]
  simp +decide only [b171_130, b171_145, b171_155, b171_162, hN, hx, eM, q_en, S, hc, hn, zQ_n, zQ_k, zQ_r, zQ_w, zQ_212, zQ_2115, zQ_wm, S.n, S.k, S.r, kx_211, kx_212, rx_211_0, Option.bind_some, Option.toList_some, Option.toList_none, List.cons_append, List.nil_append, List.append_nil, zq_rf, or_false, false_or, or_true, true_or, not_false_eq_true, not_true_eq_false, and_true, true_and, and_false, false_and, and_self, or_self, ite_true, ite_false, ↓reduceIte, Int32.reduceAdd, Int32.reduceSub, Int32.reduceMul, Int32.reduceDiv, Int32.reduceLT, Int32.reduceLE, Int32.reduceToNatClampNeg, Int32.reduceToInt, Int32.reduceOfNat, Nat.reduceAdd, Nat.reduceSub, Nat.reduceMul, Nat.reduceLeDiff, Nat.reduceEqDiff]
theorem q_asX (S : Sh h) {c n m j M : Nat} (hc : c < 3) (hn : n < 24) (hm : m ≤ 4) (hjm : j < m) (e : s (315 + 24 * c + 3) = nI n) (em : s (13 * n + 1) = nI m) (hlt : ∀ i, i < j → s (13 * n + (5 + i)) < s (315 + 24 * c + 8)) (hge : ¬ s (13 * n + (5 + j)) < s (315 + 24 * c + 8)) (a1 : ¬ s (13 * n + (5 + j)) = s (315 + 24 * c + 8)) (eM : s 314 = nI M) (hf : M < m + 1) (eN : s 312 = 24) {u2 u3 u4 u5 : Value} : ∃ q', q'.2.2.2 = q.2.2.2 ∧ zv 4 171 0 [.ref 211, .int (nI c), u2, u3, u4, u5] [] (zQ h q s) = some (some (.int 3), zQ h q' (up s (315 + 24 * c) 5)) := by
  obtain ⟨bk, bc, eB, hB⟩ := q_asI S (q := q) hc hn hm hjm e em hlt hge a1 (u2 := u2) (u3 := u3) (u4 := u4) (u5 := u5)
  have hx : nI M < nI (m + 1) := nI_lt hf (by omega)
  refine ⟨(bk, bc, nI (m + 1), q.2.2.2), rfl, ?_⟩
  rw [eB]
  simp +decide only [b171_130, b171_163, b171_176, b171_182, hx, eM, eN, q_en, S, hc, hn, zQ_n, zQ_k, zQ_r, zQ_w, zQ_212, zQ_2115, zQ_wm, S.n, S.k, S.r, kx_211, kx_212, rx_211_0, Option.bind_some, Option.toList_some, Option.toList_none, List.cons_append, List.nil_append, List.append_nil, zq_rf, or_false, false_or, or_true, true_or, not_false_eq_true, not_true_eq_false, and_true, true_and, and_false, false_and, and_self, or_self, ite_true, ite_false, ↓reduceIte, Int32.reduceAdd, Int32.reduceSub, Int32.reduceMul, Int32.reduceDiv, Int32.reduceLT, Int32.reduceLE, Int32.reduceToNatClampNeg, Int32.reduceToInt, Int32.reduceOfNat, Nat.reduceAdd, Nat.reduceSub, Nat.reduceMul, Nat.reduceLeDiff, Nat.reduceEqDiff]
theorem q_asS (S : Sh h) {c n m j M v t ls : Nat} (hc : c < 3) (hn : n < 24) (hm : m ≤ 4) (hjm : j < m) (e : s (315 + 24 * c + 3) = nI n) (em : s (13 * n + 1) = nI m) (hlt : ∀ i, i < j → s (13 * n + (5 + i)) < s (315 + 24 * c + 8)) (hge : ¬ s (13 * n + (5 + j)) < s (315 + 24 * c + 8)) (a1 : ¬ s (13 * n + (5 + j)) = s (315 + 24 * c + 8)) (eM : s 314 = nI M) (hf : M < m + 1) (hv : v < 24) (ev : s 312 = nI v) (hnv : n < v) (hls : m + 1 = 3 ∧ ls = 2 ∨ m + 1 = 4 ∧ ls = 2 ∨ m + 1 = 5 ∧ ls = 3) (et : s (13 * n) = nI t) (ht : t < 11) {u2 u3 u4 u5 : Value} : ∃ q', q'.2.2.2 = q.2.2.2 ∧ zv 4 171 0 [.ref 211, .int (nI c), u2, u3, u4, u5] [] (zQ h q s) = some (some (.int 5), zQ h q' (spF s c n v t ls (m + 1) (blF s n j (s (315 + 24 * c + 8))) (icF s n j (s (315 + 24 * c + 9))))) := by
  obtain ⟨bk, bc, eB, hB⟩ := q_asI S (q := q) hc hn hm hjm e em hlt hge a1 (u2 := u2) (u3 := u3) (u4 := u4) (u5 := u5)
  have hP := q_sp S (s := s) (q := (bk, bc, nI (m + 1), q.2.2.2)) (u2 := .double 0) (u3 := .double 0) (u4 := .double 0) hc hn hv hnv e ev rfl hls et ht
  rw [spF_congr (bk' := blF s n j (s (315 + 24 * c + 8))) (bc' := icF s n j (s (315 + 24 * c + 9))) (by omega) (fun t ht => (hB t ht).1) (fun t ht => (hB t ht).2)] at hP
  have hx : nI M < nI (m + 1) := nI_lt hf (by omega)
  have h24 : ¬ nI v = 24 := fun w => absurd ((nI_eq (a := v) (b := 24) (by omega) (by decide)).mp w) (by omega)
  refine ⟨(bk, bc, nI (m + 1), q.2.2.2), rfl, ?_⟩
  rw [eB]
  simp +decide only [b171_130, b171_163, b171_183, b171_188, hx, eM, ev, h24, hP, S, hc, hn, zQ_n, zQ_k, zQ_r, zQ_w, zQ_212, zQ_2115, zQ_wm, S.n, S.k, S.r, kx_211, kx_212, rx_211_0, Option.bind_some, Option.toList_some, Option.toList_none, List.cons_append, List.nil_append, List.append_nil, zq_rf, or_false, false_or, or_true, true_or, not_false_eq_true, not_true_eq_false, and_true, true_and, and_false, false_and, and_self, or_self, ite_true, ite_false, ↓reduceIte, Int32.reduceAdd, Int32.reduceSub, Int32.reduceMul, Int32.reduceDiv, Int32.reduceLT, Int32.reduceLE, Int32.reduceToNatClampNeg, Int32.reduceToInt, Int32.reduceOfNat, Nat.reduceAdd, Nat.reduceSub, Nat.reduceMul, Nat.reduceLeDiff, Nat.reduceEqDiff]
end R20F
end
section
/-! WHAT ALWAYS HOLDS of the reference's row -/
def sumN (g : Nat → Nat) : Nat → Nat
  | 0 => 0
  | n + 1 => sumN g n + g n
theorem sumN_congr {g g' : Nat → Nat} : ∀ {n : Nat}, (∀ i, i < n → g i = g' i) → sumN g n = sumN g' n
  | 0, _ => rfl
  | n + 1, h => by rw [sumN, sumN, sumN_congr (fun i hi => h i (by omega)), h n (by omega)]
theorem sumN_ge {g : Nat → Nat} : ∀ {n i : Nat}, i < n → g i ≤ sumN g n
  | 0, i, h => absurd h (Nat.not_lt_zero i)
  | n + 1, i, h => by
    rw [sumN]
    by_cases e : i = n
    · subst e; omega
    · have := sumN_ge (g := g) (n := n) (i := i) (by omega)
      omega
theorem sumN_one {g g' : Nat → Nat} : ∀ {n i : Nat}, i < n → (∀ j, j < n → j ≠ i → g' j = g j) → sumN g' n + g i = sumN g n + g' i
  | 0, i, h, _ => absurd h (Nat.not_lt_zero i)
  | n + 1, i, h, hj => by
    rw [sumN, sumN]
    by_cases e : i = n
    · subst e
      rw [sumN_congr (g := g') (g' := g) (fun j h1 => hj j (by omega) (by omega))]
      omega
    · have h1 := sumN_one (g := g) (g' := g') (n := n) (i := i) (by omega) (fun j a b => hj j (by omega) b)
      rw [hj n (by omega) (fun w => e w.symm)]
      omega
/-- of a node: its numbers (L level, m how many, H high, r right, K keys, C children), the order f of all nodes -/
def nodeG (s : Nat → Int32) (N R M B : Nat) (L m H r : Nat → Nat) (K C : Nat → Nat → Nat) (f : Nat → Nat) (n : Nat) : Prop :=
  (s (13 * n) = nI (L n) ∧ s (13 * n + 1) = nI (m n) ∧ s (13 * n + 2) = nI (H n)) ∧
  ((s (13 * n + 3) = -4 ∧ H n = 100) ∨ (s (13 * n + 3) = nI (r n) ∧ r n < N ∧ L (r n) = L n ∧ f n < f (r n))) ∧
  (s (13 * n + 4) = 0 ∨ (s (13 * n + 4) = 1 ∧ ¬ s (13 * n + 3) = -4 ∧ L n = 0)) ∧
  (∀ i, i < m n → s (13 * n + (5 + i)) = nI (K n i) ∧ K n i ≤ 100) ∧ (∀ i, i + 1 < m n → K n i < K n (i + 1)) ∧
  (0 < L n → 0 < m n ∧ K n (m n - 1) = H n ∧ (∀ i, i < m n → s (13 * n + (9 + i)) = nI (C n i) ∧ C n i < N ∧ L (C n i) + 1 = L n) ∧ f n + 2 * (L n - 1) < B) ∧
  L n ≤ L R ∧ m n ≤ M ∧ H n ≤ 100 ∧ f n < N
/-- of a client -/
def clG (s : Nat → Int32) (N R : Nat) (L H f : Nat → Nat) (c : Nat) : Prop :=
  ∃ k, s (315 + 24 * c) = nI k ∧ k ≤ 5 ∧ (1 ≤ k → k ≤ 4 → (∃ a, s (315 + 24 * c + 1) = nI a ∧ a ≤ 2) ∧ (∃ a, s (315 + 24 * c + 2) = nI a ∧ a ≤ 99) ∧ ∃ a, s (315 + 24 * c + 3) = nI a ∧ a < N ∧ (∀ l, l < 12 → s (315 + 24 * c + (12 + l)) = -4 ∨ ∃ b, s (315 + 24 * c + (12 + l)) = nI b ∧ b < N ∧ L b = l) ∧ (k = 2 → L a = 0) ∧
    (3 ≤ k → ∃ md p t, s (315 + 24 * c + 8) = nI md ∧ s (315 + 24 * c + 9) = nI p ∧ s (315 + 24 * c + 10) = nI t ∧ md ≤ 100 ∧ p < N ∧ 1 ≤ t ∧ t ≤ L R + 1 ∧ (s (315 + 24 * c + 11) = 1 ∧ t = 1 ∨ s (315 + 24 * c + 11) = 0 ∧ L p + 1 = t ∧ 1 ≤ f p ∧ md ≤ 99) ∧ (k = 4 → L a = t ∧ md ≤ H a)))
abbrev hoC (s : Nat → Int32) (c : Nat) : Prop := s (315 + 24 * c) = 2 ∨ s (315 + 24 * c) = 4
/-- a client has a split to post -/
def pnC (s : Nat → Int32) (c : Nat) : Nat := if (s (315 + 24 * c) = 3 ∨ s (315 + 24 * c) = 4) ∧ ¬ s (315 + 24 * c + 11) = 1 then 1 else 0
def exN (L m : Nat → Nat) (n : Nat) : Nat := if L n = 0 then 0 else m n - 1
/-- of all, by its numbers -/
def InvN (s : Nat → Int32) (N R M B : Nat) (L m H r : Nat → Nat) (K C : Nat → Nat → Nat) (f : Nat → Nat) : Prop :=
  (s 312 = nI N ∧ 1 ≤ N ∧ N ≤ 24) ∧ (s 313 = nI R ∧ R < N) ∧ (s 314 = nI M ∧ 2 ≤ M ∧ M ≤ 4) ∧
  (∀ n, n < N → nodeG s N R M B L m H r K C f n) ∧ (∀ a b, a < N → b < N → L b < L a → f a < f b) ∧ (0 < L R → B + 2 ≤ N)
def InvC (s : Nat → Int32) (N R : Nat) (L H f : Nat → Nat) : Prop := (∀ c, c < 3 → clG s N R L H f c) ∧ ∀ c d, c < 3 → d < 3 → c ≠ d → hoC s c → hoC s d → ¬ s (315 + 24 * c + 3) = s (315 + 24 * d + 3)
def InvS (s : Nat → Int32) (N B : Nat) (L m : Nat → Nat) : Prop := sumN (exN L m) N + sumN (pnC s) 3 + 1 + B ≤ N
def InvG (s : Nat → Int32) (N R M B : Nat) (L m H r : Nat → Nat) (K C : Nat → Nat → Nat) (f : Nat → Nat) : Prop := InvN s N R M B L m H r K C f ∧ InvC s N R L H f ∧ InvS s N B L m
def Inv (s : Nat → Int32) : Prop := ∃ N R M B L m H r K C f, InvG s N R M B L m H r K C f
section IV
variable {s s' : Nat → Int32} {N R M B : Nat} {L m H r : Nat → Nat} {K C : Nat → Nat → Nat} {f : Nat → Nat} {c : Nat}
/-- the nodes' numbers are as they were -/
theorem InvN.same (h : InvN s N R M B L m H r K C f) (e : ∀ k, k < 315 → s' k = s k) : InvN s' N R M B L m H r K C f := by
  obtain ⟨⟨a1, a2, a3⟩, b1, d1, g, o, z⟩ := h
  refine ⟨⟨by rw [e _ (by omega)]; exact a1, a2, a3⟩, by rw [e _ (by omega)]; exact b1, by rw [e _ (by omega)]; exact d1, fun n hn => ?_, o, z⟩
  obtain ⟨⟨g1, g2, g3⟩, g4, g5, g6, g7, g8, g9⟩ := g n hn
  have hM : M ≤ 4 := d1.2.2
  have hm : m n ≤ M := g9.2.1
  refine ⟨⟨by rw [e _ (by omega)]; exact g1, by rw [e _ (by omega)]; exact g2, by rw [e _ (by omega)]; exact g3⟩, by rw [e _ (by omega)]; exact g4, by rw [e _ (by omega), e _ (by omega)]; exact g5, fun i hi => ?_, g7, fun hl => ?_, g9⟩
  · rw [e _ (by omega)]
    exact g6 i hi
  · obtain ⟨k1, k2, k3, k4⟩ := g8 hl
    refine ⟨k1, k2, fun i hi => ?_, k4⟩
    rw [e _ (by omega)]
    exact k3 i hi
/-- a client whose numbers are as they were, in a state that has grown -/
theorem clG.mono {N' R' : Nat} {L' H' f' : Nat → Nat} (h : clG s N R L H f c) (hc : c < 3) (e : ∀ k, k < 24 → s' (315 + 24 * c + k) = s (315 + 24 * c + k)) (hN : N ≤ N') (hL : ∀ b, b < N → L' b = L b ∧ f b ≤ f' b) (hR : L R ≤ L' R') (hH : ∀ a, a < N → s (315 + 24 * c) = 4 → s (315 + 24 * c + 3) = nI a → H a ≤ H' a) : clG s' N' R' L' H' f' c := by
  obtain ⟨k, h1, h2, h3⟩ := h
  have e0 : s' (315 + 24 * c) = s (315 + 24 * c) := e 0 (by decide)
  refine ⟨k, by rw [e0]; exact h1, h2, fun k1 k2 => ?_⟩
  obtain ⟨g1, g2, a, g3, g4, g5, g6, g7⟩ := h3 k1 k2
  refine ⟨by rw [e 1 (by decide)]; exact g1, by rw [e 2 (by decide)]; exact g2, a, by rw [e 3 (by decide)]; exact g3, by omega, fun l hl => ?_, fun w => by rw [(hL a g4).1]; exact g6 w, fun w => ?_⟩
  · rw [e (12 + l) (by omega)]
    rcases g5 l hl with q | ⟨b, q1, q2, q3⟩
    · exact Or.inl q
    · exact Or.inr ⟨b, q1, by omega, by rw [(hL b q2).1]; exact q3⟩
  · obtain ⟨md, p, t, p1, p2, p3, p4, p5, p6, p7, p8, p9⟩ := g7 w
    refine ⟨md, p, t, by rw [e 8 (by decide)]; exact p1, by rw [e 9 (by decide)]; exact p2, by rw [e 10 (by decide)]; exact p3, p4, by omega, p6, by omega, ?_, fun w4 => ?_⟩
    · rw [e 11 (by decide)]
      rcases p8 with q | ⟨q1, q2, q3, q4⟩
      · exact Or.inl q
      · exact Or.inr ⟨q1, by rw [(hL p p5).1]; exact q2, by have := (hL p p5).2; omega, q4⟩
    · obtain ⟨q1, q2⟩ := p9 w4
      subst w4
      have := hH a g4 h1 g3
      exact ⟨by rw [(hL a g4).1]; exact q1, by omega⟩
/-- a client that is not under way -/
theorem clG.off {k : Nat} (h : s (315 + 24 * c) = nI k) (hk : k = 0 ∨ k = 5) : clG s N R L H f c := ⟨k, h, by omega, fun a b => by omega⟩
theorem pnC_e {d : Nat} (e0 : s' (315 + 24 * d) = s (315 + 24 * d)) (e1 : s' (315 + 24 * d + 11) = s (315 + 24 * d + 11)) : pnC s' d = pnC s d := by
  unfold pnC
  rw [e0, e1]
theorem sum3 (g : Nat → Nat) : sumN g 3 = g 0 + g 1 + g 2 := by simp [sumN]
theorem lkB_no {n : Nat} (h : lkB s (nI n) = -4) : ∀ d, d < 3 → hoC s d → ¬ s (315 + 24 * d + 3) = nI n := by
  unfold lkB at h
  intro d hd hh he
  by_cases h0 : lkO s 0 (nI n)
  · rw [if_pos h0] at h; exact absurd h (by decide)
  · rw [if_neg h0] at h
    by_cases h1 : lkO s 1 (nI n)
    · rw [if_pos h1] at h; exact absurd h (by decide)
    · rw [if_neg h1] at h
      by_cases h2 : lkO s 2 (nI n)
      · rw [if_pos h2] at h; exact absurd h (by decide)
      · have : d = 0 ∨ d = 1 ∨ d = 2 := by omega
        rcases this with rfl | rfl | rfl
        · exact h0 ⟨hh, he⟩
        · exact h1 ⟨hh, he⟩
        · exact h2 ⟨hh, he⟩
/-- one client's numbers change, no node's -/
theorem InvG.cl (I : InvG s N R M B L m H r K C f) (hc : c < 3) (e : ∀ k, k < 315 + 24 * c ∨ 315 + 24 * c + 24 ≤ k → s' k = s k) (hk : clG s' N R L H f c) (hp : pnC s' c ≤ pnC s c) (hh : hoC s' c → (hoC s c ∧ s' (315 + 24 * c + 3) = s (315 + 24 * c + 3)) ∨ ∀ d, d < 3 → hoC s d → ¬ s (315 + 24 * d + 3) = s' (315 + 24 * c + 3)) : InvG s' N R M B L m H r K C f := by
  obtain ⟨i1, ⟨i2, i3⟩, i4⟩ := I
  have ed : ∀ d, d < 3 → d ≠ c → ∀ k, k < 24 → s' (315 + 24 * d + k) = s (315 + 24 * d + k) := fun d hd hn k h24 => e _ (by omega)
  have ed0 : ∀ d, d < 3 → d ≠ c → s' (315 + 24 * d) = s (315 + 24 * d) := fun d hd hn => e _ (by omega)
  refine ⟨i1.same (fun k h9 => e k (by omega)), ⟨fun d hd => ?_, fun a b ha hb hab h1 h2 => ?_⟩, ?_⟩
  · by_cases hdc : d = c
    · subst hdc; exact hk
    · exact (i2 d hd).mono hd (ed d hd hdc) (Nat.le_refl _) (fun b _ => ⟨rfl, Nat.le_refl _⟩) (Nat.le_refl _) (fun a _ _ _ => Nat.le_refl _)
  · by_cases hac : a = c
    · subst hac
      have hbc : b ≠ a := fun w => hab w.symm
      have h2' : hoC s b := by unfold hoC at *; rw [ed0 b hb hbc] at h2; exact h2
      rw [ed b hb hbc 3 (by decide)]
      rcases hh h1 with ⟨q1, q2⟩ | q
      · rw [q2]; exact i3 a b ha hb hab q1 h2'
      · exact fun w => q b hb h2' w.symm
    · have h1' : hoC s a := by unfold hoC at *; rw [ed0 a ha hac] at h1; exact h1
      rw [ed a ha hac 3 (by decide)]
      by_cases hbc : b = c
      · subst hbc
        rcases hh h2 with ⟨q1, q2⟩ | q
        · rw [q2]; exact i3 a b ha hb hab h1' q1
        · exact q a ha h1'
      · have h2' : hoC s b := by unfold hoC at *; rw [ed0 b hb hbc] at h2; exact h2
        rw [ed b hb hbc 3 (by decide)]
        exact i3 a b ha hb hab h1' h2'
  · unfold InvS at *
    have hle : sumN (pnC s') 3 ≤ sumN (pnC s) 3 := by
      have h9 := sumN_one (g := pnC s) (g' := pnC s') (n := 3) (i := c) hc (fun d hd hn => pnC_e (ed0 d hd hn) (ed d hd hn 11 (by decide)))
      omega
    omega
end IV
end
section
/-! THE NODES' INVARIANT behind each change of nodes -/
section IVB
variable {s : Nat → Int32} {N R M B n k : Nat} {L m H r : Nat → Nat} {K C : Nat → Nat → Nat} {f : Nat → Nat} {g gc : Nat → Int32}
theorem nH_k {i : Nat} (hi : i < k) (hk : k ≤ 4) : nH s n g gc k (13 * n + (5 + i)) = g i := by
  rw [nH, up_n _ _ (by omega), nP, if_pos (by omega), show 13 * n + (5 + i) - (13 * n + 5) = i by omega]
theorem nH_c {i : Nat} (hi : i < k) (hk : k ≤ 4) : nH s n g gc k (13 * n + (9 + i)) = gc i := by
  rw [nH, up_n _ _ (by omega), nP, if_neg (by omega), if_pos (by omega), show 13 * n + (9 + i) - (13 * n + 9) = i by omega]
theorem nH_1 : nH s n g gc k (13 * n + 1) = nI k := by rw [nH, up_s]
theorem nH_ne {x w : Nat} (hk : k ≤ 4) (hx : x ≠ n) (hw : w < 13) : nH s n g gc k (13 * x + w) = s (13 * x + w) := nH_o hk (by omega)
theorem nH_ne0 {x : Nat} (hk : k ≤ 4) (hx : x ≠ n) : nH s n g gc k (13 * x) = s (13 * x) := nH_o hk (by omega)
/-- one node has other keys, entries -/
theorem InvN.big (I : InvN s N R M B L m H r K C f) (hn : n < N) {K2 C2 : Nat → Nat} (hk : k ≤ M) (h1 : ∀ i, i < k → g i = nI (K2 i) ∧ K2 i ≤ 100) (h2 : ∀ i, i + 1 < k → K2 i < K2 (i + 1)) (h3 : 0 < L n → 0 < k ∧ K2 (k - 1) = H n ∧ ∀ i, i < k → gc i = nI (C2 i) ∧ C2 i < N ∧ L (C2 i) + 1 = L n) : InvN (nH s n g gc k) N R M B L (fun x => if x = n then k else m x) H r (fun x => if x = n then K2 else K x) (fun x => if x = n then C2 else C x) f := by
  obtain ⟨⟨a1, a2, a3⟩, ⟨b1, b2⟩, ⟨d1, d2, d3⟩, G, o, z⟩ := I
  have hk4 : k ≤ 4 := by omega
  refine ⟨⟨by rw [nH_o hk4 (by omega)]; exact a1, a2, a3⟩, ⟨by rw [nH_o hk4 (by omega)]; exact b1, b2⟩, ⟨by rw [nH_o hk4 (by omega)]; exact d1, d2, d3⟩, fun x hx => ?_, o, z⟩
  obtain ⟨⟨g1, g2, g3⟩, g4, g5, g6, g7, g8, g9, g10, g11⟩ := G x hx
  by_cases e : x = n
  · subst e
    unfold nodeG
    rw [nH_o hk4 (by omega), nH_1, nH_o hk4 (by omega), nH_o hk4 (by omega), nH_o hk4 (by omega)]
    simp only [if_true]
    refine ⟨⟨g1, by trivial, g3⟩, g4, g5, fun i hi => ?_, h2, fun hl => ?_, g9, hk, g11⟩
    · rw [nH_k hi hk4]; exact h1 i hi
    · obtain ⟨k1, k2, k3⟩ := h3 hl
      refine ⟨k1, k2, fun i hi => ?_, (g8 hl).2.2.2⟩
      rw [nH_c hi hk4]; exact k3 i hi
  · unfold nodeG
    have hm : m x ≤ 4 := by omega
    rw [nH_ne0 hk4 e, nH_ne hk4 e (by decide), nH_ne hk4 e (by decide), nH_ne hk4 e (by decide), nH_ne hk4 e (by decide)]
    simp only [if_neg e]
    refine ⟨⟨g1, g2, g3⟩, g4, g5, fun i hi => ?_, g7, fun hl => ?_, g9, g10, g11⟩
    · rw [nH_ne hk4 e (by omega)]; exact g6 i hi
    · obtain ⟨k1, k2, k3, k4⟩ := g8 hl
      refine ⟨k1, k2, fun i hi => ?_, k4⟩
      rw [nH_ne hk4 e (by omega)]; exact k3 i hi
/-- a leaf dies -/
theorem InvN.dies (I : InvN s N R M B L m H r K C f) (hn : n < N) (hl : L n = 0) (hr : ¬ s (13 * n + 3) = -4) : InvN (up s (13 * n + 4) 1) N R M B L m H r K C f := by
  obtain ⟨⟨a1, a2, a3⟩, ⟨b1, b2⟩, ⟨d1, d2, d3⟩, G, o, z⟩ := I
  refine ⟨⟨by rw [up_n _ _ (by omega)]; exact a1, a2, a3⟩, ⟨by rw [up_n _ _ (by omega)]; exact b1, b2⟩, ⟨by rw [up_n _ _ (by omega)]; exact d1, d2, d3⟩, fun x hx => ?_, o, z⟩
  obtain ⟨⟨g1, g2, g3⟩, g4, g5, g6, g7, g8, g9, g10, g11⟩ := G x hx
  have hm : m x ≤ 4 := by omega
  have h5 : (up s (13 * n + 4) 1 (13 * x + 4) = 0 ∨ (up s (13 * n + 4) 1 (13 * x + 4) = 1 ∧ ¬ s (13 * x + 3) = -4 ∧ L x = 0)) := by
    by_cases e : x = n
    · subst e
      rw [up_s]
      exact Or.inr ⟨rfl, hr, hl⟩
    · rw [up_n _ _ (by omega)]
      exact g5
  unfold nodeG
  rw [up_n s 1 (show 13 * x ≠ 13 * n + 4 by omega), up_n s 1 (show 13 * x + 1 ≠ 13 * n + 4 by omega), up_n s 1 (show 13 * x + 2 ≠ 13 * n + 4 by omega), up_n s 1 (show 13 * x + 3 ≠ 13 * n + 4 by omega)]
  refine ⟨⟨g1, g2, g3⟩, g4, h5, fun i hi => ?_, g7, fun h9 => ?_, g9, g10, g11⟩
  · rw [up_n _ _ (by omega)]; exact g6 i hi
  · obtain ⟨k1, k2, k3, k4⟩ := g8 h9
    refine ⟨k1, k2, fun i hi => ?_, k4⟩
    rw [up_n _ _ (by omega)]; exact k3 i hi
theorem nn_0 {v : Nat} {lv hi rt : Int32} : nnF s v lv hi rt (13 * v) = lv := by rw [nnF, up_n _ _ (by omega), up_n _ _ (by omega), up_n _ _ (by omega), up_s]
theorem nn_2 {v : Nat} {lv hi rt : Int32} : nnF s v lv hi rt (13 * v + 2) = hi := by rw [nnF, up_n _ _ (by omega), up_n _ _ (by omega), up_s]
theorem nn_3 {v : Nat} {lv hi rt : Int32} : nnF s v lv hi rt (13 * v + 3) = rt := by rw [nnF, up_n _ _ (by omega), up_s]
theorem nn_4 {v : Nat} {lv hi rt : Int32} : nnF s v lv hi rt (13 * v + 4) = 0 := by rw [nnF, up_s]
theorem nn_N {v : Nat} {lv hi rt : Int32} (hv : v < 24) : nnF s v lv hi rt 312 = nI (v + 1) := by rw [nnF, up_n _ _ (by omega), up_n _ _ (by omega), up_n _ _ (by omega), up_n _ _ (by omega), up_s]
end IVB
end
section
/-! THE NODES' INVARIANT behind a split, a new root -/
section IVC
variable {s : Nat → Int32} {N R M B n : Nat} {L m H r : Nat → Nat} {K C : Nat → Nat → Nat} {f : Nat → Nat}
/-- the nodes behind a split -/
def s2F (s : Nat → Int32) (n v : Nat) (gv gcv gn gcn : Nat → Int32) (kv kn : Nat) (hm : Int32) : Nat → Int32 := up (up (nH (nH (nnF s v (s (13 * n)) (s (13 * n + 2)) (s (13 * n + 3))) v gv gcv kv) n gn gcn kn) (13 * n + 3) (nI v)) (13 * n + 2) hm
section S2
variable {gv gcv gn gcn : Nat → Int32} {v kv kn : Nat} {hm : Int32}
theorem s2_o {j : Nat} (hkv : kv ≤ 4) (hkn : kn ≤ 4) (h1 : j ≠ 312) (hn : j < 13 * n ∨ 13 * n + 13 ≤ j) (hv : j < 13 * v ∨ 13 * v + 13 ≤ j) : s2F s n v gv gcv gn gcn kv kn hm j = s j := by
  rw [s2F, up_n _ _ (by omega), up_n _ _ (by omega), nH_o hkn (by omega), nH_o hkv (by omega), nn_o h1 (by omega)]
theorem s2_N (hkv : kv ≤ 4) (hkn : kn ≤ 4) (hv : v < 24) (hn : n < 24) : s2F s n v gv gcv gn gcn kv kn hm 312 = nI (v + 1) := by
  rw [s2F, up_n _ _ (by omega), up_n _ _ (by omega), nH_o hkn (by omega), nH_o hkv (by omega), nn_N hv]
theorem s2_n0 (hkv : kv ≤ 4) (hkn : kn ≤ 4) (hv : v < 24) (hnv : n < v) : s2F s n v gv gcv gn gcn kv kn hm (13 * n) = s (13 * n) := by
  rw [s2F, up_n _ _ (by omega), up_n _ _ (by omega), nH_o hkn (by omega), nH_o hkv (by omega), nn_o (by omega) (by omega)]
theorem s2_n1 : s2F s n v gv gcv gn gcn kv kn hm (13 * n + 1) = nI kn := by
  rw [s2F, up_n _ _ (by omega), up_n _ _ (by omega), nH_1]
theorem s2_n2 : s2F s n v gv gcv gn gcn kv kn hm (13 * n + 2) = hm := by rw [s2F, up_s]
theorem s2_n3 : s2F s n v gv gcv gn gcn kv kn hm (13 * n + 3) = nI v := by rw [s2F, up_n _ _ (by omega), up_s]
theorem s2_n4 (hkv : kv ≤ 4) (hkn : kn ≤ 4) (hv : v < 24) (hnv : n < v) : s2F s n v gv gcv gn gcn kv kn hm (13 * n + 4) = s (13 * n + 4) := by
  rw [s2F, up_n _ _ (by omega), up_n _ _ (by omega), nH_o hkn (by omega), nH_o hkv (by omega), nn_o (by omega) (by omega)]
theorem s2_nk {i : Nat} (hkn : kn ≤ 4) (hi : i < kn) : s2F s n v gv gcv gn gcn kv kn hm (13 * n + (5 + i)) = gn i := by
  rw [s2F, up_n _ _ (by omega), up_n _ _ (by omega), nH_k hi hkn]
theorem s2_nc {i : Nat} (hkn : kn ≤ 4) (hi : i < kn) : s2F s n v gv gcv gn gcn kv kn hm (13 * n + (9 + i)) = gcn i := by
  rw [s2F, up_n _ _ (by omega), up_n _ _ (by omega), nH_c hi hkn]
theorem s2_v0 (hkv : kv ≤ 4) (hkn : kn ≤ 4) (hnv : n < v) : s2F s n v gv gcv gn gcn kv kn hm (13 * v) = s (13 * n) := by
  rw [s2F, up_n _ _ (by omega), up_n _ _ (by omega), nH_o hkn (by omega), nH_o hkv (by omega), nn_0]
theorem s2_v1 (hkv : kv ≤ 4) (hkn : kn ≤ 4) (hnv : n < v) : s2F s n v gv gcv gn gcn kv kn hm (13 * v + 1) = nI kv := by
  rw [s2F, up_n _ _ (by omega), up_n _ _ (by omega), nH_o hkn (by omega), nH_1]
theorem s2_v2 (hkv : kv ≤ 4) (hkn : kn ≤ 4) (hnv : n < v) : s2F s n v gv gcv gn gcn kv kn hm (13 * v + 2) = s (13 * n + 2) := by
  rw [s2F, up_n _ _ (by omega), up_n _ _ (by omega), nH_o hkn (by omega), nH_o hkv (by omega), nn_2]
theorem s2_v3 (hkv : kv ≤ 4) (hkn : kn ≤ 4) (hnv : n < v) : s2F s n v gv gcv gn gcn kv kn hm (13 * v + 3) = s (13 * n + 3) := by
  rw [s2F, up_n _ _ (by omega), up_n _ _ (by omega), nH_o hkn (by omega), nH_o hkv (by omega), nn_3]
theorem s2_v4 (hkv : kv ≤ 4) (hkn : kn ≤ 4) (hnv : n < v) : s2F s n v gv gcv gn gcn kv kn hm (13 * v + 4) = 0 := by
  rw [s2F, up_n _ _ (by omega), up_n _ _ (by omega), nH_o hkn (by omega), nH_o hkv (by omega), nn_4]
theorem s2_vk {i : Nat} (hkv : kv ≤ 4) (hkn : kn ≤ 4) (hnv : n < v) (hi : i < kv) : s2F s n v gv gcv gn gcn kv kn hm (13 * v + (5 + i)) = gv i := by
  rw [s2F, up_n _ _ (by omega), up_n _ _ (by omega), nH_o hkn (by omega), nH_k hi hkv]
theorem s2_vc {i : Nat} (hkv : kv ≤ 4) (hkn : kn ≤ 4) (hnv : n < v) (hi : i < kv) : s2F s n v gv gcv gn gcn kv kn hm (13 * v + (9 + i)) = gcv i := by
  rw [s2F, up_n _ _ (by omega), up_n _ _ (by omega), nH_o hkn (by omega), nH_c hi hkv]
end S2
theorem InvN.split (I : InvN s N R M B L m H r K C f) (hn : n < N) (hN : N < 24) {gv gcv gn gcn : Nat → Int32} {kv kn hm : Nat} {Kv Cv Kn Cn : Nat → Nat} (hkv : kv ≤ M) (hkn : kn ≤ M) (hhm : hm ≤ 100)
    (v1 : ∀ i, i < kv → gv i = nI (Kv i) ∧ Kv i ≤ 100) (v2 : ∀ i, i + 1 < kv → Kv i < Kv (i + 1)) (v3 : 0 < L n → 0 < kv ∧ Kv (kv - 1) = H n ∧ ∀ i, i < kv → gcv i = nI (Cv i) ∧ Cv i < N ∧ L (Cv i) + 1 = L n)
    (n1 : ∀ i, i < kn → gn i = nI (Kn i) ∧ Kn i ≤ 100) (n2 : ∀ i, i + 1 < kn → Kn i < Kn (i + 1)) (n3 : 0 < L n → 0 < kn ∧ Kn (kn - 1) = hm ∧ ∀ i, i < kn → gcn i = nI (Cn i) ∧ Cn i < N ∧ L (Cn i) + 1 = L n) :
    InvN (s2F s n N gv gcv gn gcn kv kn (nI hm)) (N + 1) R M (if L n = 0 then B else B + 1) (fun x => if x = N then L n else L x) (fun x => if x = N then kv else if x = n then kn else m x) (fun x => if x = N then H n else if x = n then hm else H x) (fun x => if x = N then r n else if x = n then N else r x) (fun x => if x = N then Kv else if x = n then Kn else K x) (fun x => if x = N then Cv else if x = n then Cn else C x) (fun x => if x = N then f n + 1 else if f x ≤ f n then f x else f x + 1) := by
  obtain ⟨⟨a1, a2, a3⟩, ⟨b1, b2⟩, ⟨d1, d2, d3⟩, G, o, z⟩ := I
  have kv4 : kv ≤ 4 := by omega
  have kn4 : kn ≤ 4 := by omega
  have hnN : n ≠ N := by omega
  have hRN : R ≠ N := by omega
  obtain ⟨⟨g1, g2, g3⟩, g4, g5, g6, g7, g8, g9, g10, g11, g12⟩ := G n hn
  have old : ∀ x, x < N → x ≠ N := fun x hx => by omega
  have Lo : ∀ x, x < N → (if x = N then L n else L x) = L x := fun x hx => if_neg (old x hx)
  have fm : ∀ a b, a < N → b < N → f a < f b → (if f a ≤ f n then f a else f a + 1) < (if f b ≤ f n then f b else f b + 1) := by
    intro a b _ _ h9
    by_cases h1 : f a ≤ f n
    · rw [if_pos h1]
      by_cases h2 : f b ≤ f n
      · rw [if_pos h2]; exact h9
      · rw [if_neg h2]; omega
    · rw [if_neg h1, if_neg (by omega)]; omega
  have fb : ∀ a, a < N → f a ≤ (if f a ≤ f n then f a else f a + 1) ∧ (if f a ≤ f n then f a else f a + 1) ≤ f a + 1 := by
    intro a _
    by_cases h1 : f a ≤ f n
    · rw [if_pos h1]; omega
    · rw [if_neg h1]; omega
  refine ⟨⟨s2_N kv4 kn4 hN (by omega), by omega, by omega⟩, ⟨by rw [s2_o kv4 kn4 (by omega) (by omega) (by omega)]; exact b1, by omega⟩, ⟨by rw [s2_o kv4 kn4 (by omega) (by omega) (by omega)]; exact d1, d2, d3⟩, fun x hx => ?_, fun a b ha hb hab => ?_, fun hl => ?_⟩
  · by_cases eN : x = N
    · subst eN
      unfold nodeG
      rw [s2_v0 kv4 kn4 hn, s2_v1 kv4 kn4 hn, s2_v2 kv4 kn4 hn, s2_v3 kv4 kn4 hn, s2_v4 kv4 kn4 hn]
      simp only [if_true, if_neg hRN]
      refine ⟨⟨g1, by trivial, g3⟩, ?_, Or.inl (by trivial), fun i hi => ?_, v2, fun hl => ?_, g9, hkv, g11, ?_⟩
      · rcases g4 with q | ⟨q1, q2, q3, q4⟩
        · exact Or.inl q
        · refine Or.inr ⟨q1, by omega, ?_, ?_⟩
          · rw [if_neg (old _ q2)]; exact q3
          · rw [if_neg (old _ q2), if_neg (by omega)]; omega
      · rw [s2_vk kv4 kn4 hn hi]; exact v1 i hi
      · obtain ⟨k1, k2, k3⟩ := v3 hl
        refine ⟨k1, k2, fun i hi => ?_, ?_⟩
        · obtain ⟨c1, c2, c3⟩ := k3 i hi
          rw [s2_vc kv4 kn4 hn hi, if_neg (old _ c2)]
          exact ⟨c1, by omega, c3⟩
        · rw [if_neg (by omega)]
          have := (g8 hl).2.2.2
          omega
      · omega
    · have hxN : x < N := by omega
      obtain ⟨⟨x1, x2, x3⟩, x4, x5, x6, x7, x8, x9, x10, x11, x12⟩ := G x hxN
      by_cases e : x = n
      · subst e
        unfold nodeG
        rw [s2_n0 kv4 kn4 hN hn, s2_n1, s2_n2, s2_n3, s2_n4 kv4 kn4 hN hn]
        simp only [if_neg eN, if_true, if_neg hRN, Nat.le_refl]
        refine ⟨⟨g1, by trivial, by trivial⟩, Or.inr ⟨by trivial, by omega, by trivial, by omega⟩, ?_, fun i hi => ?_, n2, fun hl => ?_, g9, hkn, hhm, by omega⟩
        · rcases g5 with q | ⟨q1, q2, q3⟩
          · exact Or.inl q
          · refine Or.inr ⟨q1, fun w => ?_, q3⟩
            exact absurd w (by
              have h9 : ¬ nI N < 0 := nI_pos (by omega)
              intro w2
              rw [w2] at h9
              exact h9 (by decide))
        · rw [s2_nk kn4 hi]; exact n1 i hi
        · obtain ⟨k1, k2, k3⟩ := n3 hl
          refine ⟨k1, k2, fun i hi => ?_, ?_⟩
          · obtain ⟨c1, c2, c3⟩ := k3 i hi
            rw [s2_nc kn4 hi, if_neg (old _ c2)]
            exact ⟨c1, by omega, c3⟩
          · rw [if_neg (by omega)]
            have := (g8 hl).2.2.2
            omega
      · unfold nodeG
        have hmx : m x ≤ 4 := by omega
        have so : ∀ w, w < 13 → s2F s n N gv gcv gn gcn kv kn (nI hm) (13 * x + w) = s (13 * x + w) := fun w hw => s2_o kv4 kn4 (by omega) (by omega) (by omega)
        rw [so 1 (by decide), so 2 (by decide), so 3 (by decide), so 4 (by decide), show s2F s n N gv gcv gn gcn kv kn (nI hm) (13 * x) = s (13 * x) from so 0 (by decide)]
        simp only [if_neg eN, if_neg e, if_neg hRN]
        refine ⟨⟨x1, x2, x3⟩, ?_, x5, fun i hi => ?_, x7, fun hl => ?_, x9, x10, x11, ?_⟩
        · rcases x4 with q | ⟨q1, q2, q3, q4⟩
          · exact Or.inl q
          · refine Or.inr ⟨q1, by omega, ?_, ?_⟩
            · rw [if_neg (old _ q2)]; exact q3
            · rw [if_neg (old _ q2)]; exact fm x _ hxN q2 q4
        · rw [so (5 + i) (by omega)]; exact x6 i hi
        · obtain ⟨k1, k2, k3, k4⟩ := x8 hl
          refine ⟨k1, k2, fun i hi => ?_, ?_⟩
          · obtain ⟨c1, c2, c3⟩ := k3 i hi
            rw [so (9 + i) (by omega), if_neg (old _ c2)]
            exact ⟨c1, by omega, c3⟩
          · by_cases h0 : L n = 0
            · have h9 := o x n hxN hn (by omega)
              rw [if_pos h0, if_pos (by omega)]
              exact k4
            · rw [if_neg h0]
              have := (fb x hxN).2
              omega
        · have := (fb x hxN).2
          omega
  · dsimp only at hab ⊢
    by_cases ea : a = N
    · subst ea
      rw [if_pos rfl] at hab ⊢
      by_cases eb : b = a
      · rw [if_pos eb] at hab; omega
      · rw [if_neg eb] at hab ⊢
        have h9 := o n b hn (by omega) hab
        rw [if_neg (by omega)]; omega
    · rw [if_neg ea] at hab ⊢
      by_cases eb : b = N
      · subst eb
        rw [if_pos rfl] at hab ⊢
        have h9 := o a n (by omega) hn hab
        rw [if_pos (by omega)]; omega
      · rw [if_neg eb] at hab ⊢
        exact fm a b (by omega) (by omega) (o a b (by omega) (by omega) hab)
  · dsimp only at hl
    rw [if_neg hRN] at hl
    have := z hl
    by_cases h0 : L n = 0
    · rw [if_pos h0]; omega
    · rw [if_neg h0]; omega
/-- the nodes behind a new root -/
theorem InvN.root (I : InvN s N R M B L m H r K C f) (hN : N < 24) {md p : Nat} (hmd : md ≤ 99) (hp : p < N) (hL : L p = L R) (hf : 1 ≤ f p) (hB : B + 2 ≤ N) {g gc : Nat → Int32} (e0 : g 0 = nI md) (e1 : g 1 = 100) (c0 : gc 0 = nI R) (c1 : gc 1 = nI p) :
    InvN (up (nH (nnF s N (nI (L R + 1)) 100 (-4)) N g gc 2) 313 (nI N)) (N + 1) N M (B + 1) (fun x => if x = N then L R + 1 else L x) (fun x => if x = N then 2 else m x) (fun x => if x = N then 100 else H x) r (fun x => if x = N then (fun i => if i = 0 then md else 100) else K x) (fun x => if x = N then (fun i => if i = 0 then R else p) else C x) (fun x => if x = N then 0 else f x + 1) := by
  obtain ⟨⟨a1, a2, a3⟩, ⟨b1, b2⟩, ⟨d1, d2, d3⟩, G, o, z⟩ := I
  have old : ∀ x, x < N → x ≠ N := fun x hx => by omega
  have hRN : R ≠ N := by omega
  have so : ∀ j, j ≠ 312 → j ≠ 313 → (j < 13 * N ∨ 13 * N + 13 ≤ j) → up (nH (nnF s N (nI (L R + 1)) 100 (-4)) N g gc 2) 313 (nI N) j = s j := fun j h1 h2 h3 => by
    rw [up_n _ _ h2, nH_o (by decide) (by omega), nn_o h1 (by omega)]
  obtain ⟨⟨p1, p2, p3⟩, p4, p5, p6, p7, p8, p9⟩ := G p hp
  refine ⟨⟨by rw [up_n _ _ (by decide), nH_o (by decide) (by omega), nn_N hN], by omega, by omega⟩, ⟨up_s _ _ _, by omega⟩, ⟨by rw [so _ (by decide) (by decide) (by omega)]; exact d1, d2, d3⟩, fun x hx => ?_, fun a b ha hb hab => ?_, fun _ => by omega⟩
  · by_cases eN : x = N
    · subst eN
      unfold nodeG
      rw [up_n _ _ (show 13 * x ≠ 313 by omega), up_n _ _ (show 13 * x + 1 ≠ 313 by omega), up_n _ _ (show 13 * x + 2 ≠ 313 by omega), up_n _ _ (show 13 * x + 3 ≠ 313 by omega), up_n _ _ (show 13 * x + 4 ≠ 313 by omega), nH_o (by decide) (by omega), nH_1, nH_o (by decide) (by omega), nH_o (by decide) (by omega), nH_o (by decide) (by omega), nn_0, nn_2, nn_3, nn_4]
      simp only [if_true]
      refine ⟨⟨by trivial, by trivial, by trivial⟩, Or.inl ⟨by trivial, by trivial⟩, Or.inl (by trivial), fun i hi => ?_, fun i hi => ?_, fun hl => ⟨by decide, by rw [if_neg (by decide)], fun i hi => ?_, ?_⟩, Nat.le_refl _, d2, by decide, by omega⟩
      · rw [up_n _ _ (by omega), nH_k hi (by decide)]
        have : i = 0 ∨ i = 1 := by omega
        rcases this with rfl | rfl
        · rw [if_pos rfl]; exact ⟨e0, by omega⟩
        · rw [if_neg (by decide)]; exact ⟨e1, by decide⟩
      · have : i = 0 := by omega
        subst this
        rw [if_pos rfl, if_neg (by decide)]; omega
      · rw [up_n _ _ (by omega), nH_c hi (by decide)]
        have : i = 0 ∨ i = 1 := by omega
        rcases this with rfl | rfl
        · rw [if_pos rfl, if_neg hRN]; exact ⟨c0, by omega, rfl⟩
        · rw [if_neg (by decide), if_neg (old p hp)]; exact ⟨c1, by omega, by rw [hL]⟩
      · by_cases h0 : L R = 0
        · omega
        · have := (p8 (by omega)).2.2.2
          omega
    · have hxN : x < N := by omega
      obtain ⟨⟨x1, x2, x3⟩, x4, x5, x6, x7, x8, x9, x10, x11, x12⟩ := G x hxN
      unfold nodeG
      have hmx : m x ≤ 4 := by omega
      have sx : ∀ w, w < 13 → up (nH (nnF s N (nI (L R + 1)) 100 (-4)) N g gc 2) 313 (nI N) (13 * x + w) = s (13 * x + w) := fun w hw => so _ (by omega) (by omega) (by omega)
      rw [sx 1 (by decide), sx 2 (by decide), sx 3 (by decide), sx 4 (by decide), show up (nH (nnF s N (nI (L R + 1)) 100 (-4)) N g gc 2) 313 (nI N) (13 * x) = s (13 * x) from sx 0 (by decide)]
      simp only [if_neg eN, if_true]
      refine ⟨⟨x1, x2, x3⟩, ?_, x5, fun i hi => ?_, x7, fun hl => ?_, by omega, x10, x11, by omega⟩
      · rcases x4 with q | ⟨q1, q2, q3, q4⟩
        · exact Or.inl q
        · refine Or.inr ⟨q1, by omega, ?_, ?_⟩
          · rw [if_neg (old _ q2)]; exact q3
          · rw [if_neg (old _ q2)]; omega
      · rw [sx (5 + i) (by omega)]; exact x6 i hi
      · obtain ⟨k1, k2, k3, k4⟩ := x8 hl
        refine ⟨k1, k2, fun i hi => ?_, by omega⟩
        obtain ⟨c9, c8, c7⟩ := k3 i hi
        rw [sx (9 + i) (by omega), if_neg (old _ c8)]
        exact ⟨c9, by omega, c7⟩
  · dsimp only at hab ⊢
    by_cases ea : a = N
    · subst ea
      rw [if_pos rfl] at hab ⊢
      by_cases eb : b = a
      · rw [if_pos eb] at hab; omega
      · rw [if_neg eb]; omega
    · rw [if_neg ea] at hab ⊢
      by_cases eb : b = N
      · subst eb
        rw [if_pos rfl] at hab
        have := (G a (by omega)).2.2.2.2.2.2.1
        omega
      · rw [if_neg eb] at hab ⊢
        have := o a b (by omega) (by omega) hab
        omega
end IVC
end
section
/-! A STEP, case by case, over the row alone -/
section STP
variable (s : Nat → Int32) (c : Nat) (x : Int32) (s' : Nat → Int32)
def StD : Prop := ∃ n, n < 24 ∧ s (315 + 24 * c + 3) = nI n ∧ (
    ((s (13 * n + 4) = 1 ∨ s (13 * n + 2) < s (315 + 24 * c + 2)) ∧ x = 1 ∧ s' = up s (315 + 24 * c + 3) (s (13 * n + 3)))
  ∨ (¬ s (13 * n + 4) = 1 ∧ ¬ s (13 * n + 2) < s (315 + 24 * c + 2) ∧ (
      (∃ t j, 0 < t ∧ t < 12 ∧ s (13 * n) = nI t ∧ j < 4 ∧ (∀ i, i < j → s (13 * n + (5 + i)) < s (315 + 24 * c + 2)) ∧ ¬ s (13 * n + (5 + j)) < s (315 + 24 * c + 2) ∧ x = 2 ∧ s' = up (up s (315 + 24 * c + (12 + t)) (nI n)) (315 + 24 * c + 3) (s (13 * n + (9 + j))))
    ∨ (s (13 * n) = 0 ∧ (
        (s (315 + 24 * c + 1) = 0 ∧ ∃ m, m ≤ 4 ∧ s (13 * n + 1) = nI m ∧ x = 3 ∧ s' = up (up s (315 + 24 * c + 4) (zi_bI (hkF s n (s (315 + 24 * c + 2)) m))) (315 + 24 * c) 5)
      ∨ (¬ s (315 + 24 * c + 1) = 0 ∧ lkB s (nI n) = -4 ∧ x = 4 ∧ s' = up s (315 + 24 * c) 2)
      ∨ (¬ s (315 + 24 * c + 1) = 0 ∧ ¬ lkB s (nI n) = -4 ∧ x = 0 ∧ s' = s))))))
def StP : Prop := ∃ n m M, n < 24 ∧ m ≤ M ∧ 2 ≤ M ∧ M ≤ 4 ∧ s (315 + 24 * c + 3) = nI n ∧ s (13 * n + 1) = nI m ∧ s 314 = nI M ∧ s (13 * n) = 0 ∧ (
    (hkF s n (s (315 + 24 * c + 2)) m = true ∧ x = 3 ∧ s' = up (up s (315 + 24 * c + 4) 0) (315 + 24 * c) 5)
  ∨ (hkF s n (s (315 + 24 * c + 2)) m = false ∧ ∃ p, p ≤ m ∧ (∀ i, i < p → ¬ s (315 + 24 * c + 2) < s (13 * n + (5 + i))) ∧ (∀ i, p ≤ i → i < m → s (315 + 24 * c + 2) < s (13 * n + (5 + i))) ∧ (
      (m + 1 ≤ M ∧ x = 3 ∧ s' = up (up (nH s n (blF s n p (s (315 + 24 * c + 2))) (fun _ => -4) (m + 1)) (315 + 24 * c + 4) 1) (315 + 24 * c) 5)
    ∨ (m = M ∧ s 312 = 24 ∧ x = 3 ∧ s' = up (up s (315 + 24 * c + 4) (-3)) (315 + 24 * c) 5)
    ∨ (m = M ∧ ∃ v ls, v < 24 ∧ n < v ∧ s 312 = nI v ∧ (m + 1 = 3 ∧ ls = 2 ∨ m + 1 = 4 ∧ ls = 2 ∨ m + 1 = 5 ∧ ls = 3) ∧ x = 5 ∧ s' = up (spF s c n v 0 ls (m + 1) (blF s n p (s (315 + 24 * c + 2))) (fun _ => -4)) (315 + 24 * c + 4) 1))))
def StT : Prop := ∃ n m, n < 24 ∧ m ≤ 4 ∧ s (315 + 24 * c + 3) = nI n ∧ s (13 * n + 1) = nI m ∧ s (13 * n) = 0 ∧ (
    (hkF s n (s (315 + 24 * c + 2)) m = false ∧ x = 3 ∧ s' = up (up s (315 + 24 * c + 4) 0) (315 + 24 * c) 5)
  ∨ (hkF s n (s (315 + 24 * c + 2)) m = true ∧ ∃ p, p < m ∧ s (13 * n + (5 + p)) = s (315 + 24 * c + 2) ∧ (∀ i, i < m → i ≠ p → ¬ s (13 * n + (5 + i)) = s (315 + 24 * c + 2)) ∧ (
      ((1 < m ∨ s (13 * n + 3) = -4) ∧ x = 3 ∧ s' = up (up (nH s n (rmF s n 5 p) (fun _ => -4) (m - 1)) (315 + 24 * c + 4) 1) (315 + 24 * c) 5)
    ∨ (m = 1 ∧ ¬ s (13 * n + 3) = -4 ∧ x = 6 ∧ s' = poF (up (up (nH s n (rmF s n 5 0) (fun _ => -4) 0) (315 + 24 * c + 4) 1) (13 * n + 4) 1) c 1 (s (13 * n + 2)) (nI n) 1))))
def StO : Prop := ∃ n r, n < 24 ∧ r < 24 ∧ s (315 + 24 * c + 3) = nI n ∧ s 313 = nI r ∧ (
    (s (13 * r) < s (315 + 24 * c + 10) ∧ (
      ((s (315 + 24 * c + 11) = 1 ∨ s 312 = 24) ∧ x = 3 ∧ s' = up s (315 + 24 * c) 5)
    ∨ (¬ s (315 + 24 * c + 11) = 1 ∧ ∃ v, v < 24 ∧ s 312 = nI v ∧ x = 7 ∧ s' = up (up (nH (nnF s v (s (315 + 24 * c + 10)) 100 (-4)) v (fun i => if i = 0 then s (315 + 24 * c + 8) else 100) (fun i => if i = 0 then s 313 else s (315 + 24 * c + 9)) 2) 313 (nI v)) (315 + 24 * c) 5)))
  ∨ (¬ s (13 * r) < s (315 + 24 * c + 10) ∧ (
      (s (13 * n) < s (315 + 24 * c + 10) ∧ x = 9 ∧ s' = up s (315 + 24 * c + 3) (nI r))
    ∨ (¬ s (13 * n) < s (315 + 24 * c + 10) ∧ (
        (s (13 * n + 2) < s (315 + 24 * c + 8) ∧ x = 1 ∧ s' = up s (315 + 24 * c + 3) (s (13 * n + 3)))
      ∨ (¬ s (13 * n + 2) < s (315 + 24 * c + 8) ∧ (
          (s (315 + 24 * c + 10) < s (13 * n) ∧ ∃ j, j < 4 ∧ (∀ i, i < j → s (13 * n + (5 + i)) < s (315 + 24 * c + 8)) ∧ ¬ s (13 * n + (5 + j)) < s (315 + 24 * c + 8) ∧ x = 2 ∧ s' = up s (315 + 24 * c + 3) (s (13 * n + (9 + j))))
        ∨ (¬ s (315 + 24 * c + 10) < s (13 * n) ∧ lkB s (nI n) = -4 ∧ x = 4 ∧ s' = up s (315 + 24 * c) 4)
        ∨ (¬ s (315 + 24 * c + 10) < s (13 * n) ∧ ¬ lkB s (nI n) = -4 ∧ x = 0 ∧ s' = s))))))))
def StX : Prop := ∃ n m j, n < 24 ∧ m ≤ 4 ∧ j < m ∧ s (315 + 24 * c + 3) = nI n ∧ s (13 * n + 1) = nI m ∧ (∀ i, i < j → s (13 * n + (5 + i)) < s (315 + 24 * c + 8)) ∧ ¬ s (13 * n + (5 + j)) < s (315 + 24 * c + 8) ∧ (
    ((¬ s (13 * n + (5 + j)) = s (315 + 24 * c + 8) ∨ ¬ s (13 * n + (9 + j)) = s (315 + 24 * c + 9) ∨ j + 1 = m) ∧ x = 3 ∧ s' = up s (315 + 24 * c) 5)
  ∨ (j + 1 < m ∧ s (13 * n + (5 + j)) = s (315 + 24 * c + 8) ∧ s (13 * n + (9 + j)) = s (315 + 24 * c + 9) ∧ x = 8 ∧ s' = up (nH s n (rmF s n 5 j) (rmF s n 9 j) (m - 1)) (315 + 24 * c) 5))
def StY : Prop := ∃ n m j M, n < 24 ∧ m ≤ M ∧ 2 ≤ M ∧ M ≤ 4 ∧ j < m ∧ s (315 + 24 * c + 3) = nI n ∧ s (13 * n + 1) = nI m ∧ s 314 = nI M ∧ (∀ i, i < j → s (13 * n + (5 + i)) < s (315 + 24 * c + 8)) ∧ ¬ s (13 * n + (5 + j)) < s (315 + 24 * c + 8) ∧ (
    (s (13 * n + (5 + j)) = s (315 + 24 * c + 8) ∧ x = 3 ∧ s' = up s (315 + 24 * c) 5)
  ∨ (¬ s (13 * n + (5 + j)) = s (315 + 24 * c + 8) ∧ (
      (m + 1 ≤ M ∧ x = 8 ∧ s' = up (nH s n (blF s n j (s (315 + 24 * c + 8))) (icF s n j (s (315 + 24 * c + 9))) (m + 1)) (315 + 24 * c) 5)
    ∨ (m = M ∧ s 312 = 24 ∧ x = 3 ∧ s' = up s (315 + 24 * c) 5)
    ∨ (m = M ∧ ∃ v t ls, v < 24 ∧ n < v ∧ s 312 = nI v ∧ s (13 * n) = nI t ∧ t < 11 ∧ (m + 1 = 3 ∧ ls = 2 ∨ m + 1 = 4 ∧ ls = 2 ∨ m + 1 = 5 ∧ ls = 3) ∧ x = 5 ∧ s' = spF s c n v t ls (m + 1) (blF s n j (s (315 + 24 * c + 8))) (icF s n j (s (315 + 24 * c + 9)))))))
def StA : Prop := (s (315 + 24 * c) = 1 ∧ StD s c x s') ∨ (s (315 + 24 * c) = 2 ∧ s (315 + 24 * c + 1) = 1 ∧ StP s c x s') ∨ (s (315 + 24 * c) = 2 ∧ ¬ s (315 + 24 * c + 1) = 1 ∧ StT s c x s') ∨ (s (315 + 24 * c) = 3 ∧ StO s c x s') ∨ (s (315 + 24 * c) = 4 ∧ s (315 + 24 * c + 11) = 1 ∧ StX s c x s') ∨ (s (315 + 24 * c) = 4 ∧ ¬ s (315 + 24 * c + 11) = 1 ∧ StY s c x s') ∨ ((s (315 + 24 * c) = 0 ∨ s (315 + 24 * c) = 5) ∧ x = 0 ∧ s' = s)
end STP
section STQ
variable {h : zi_Hp} {q : zQs} {s s' : Nat → Int32} {c : Nat} {x : Int32}
theorem q_stD (S : Sh h) (hc : c < 3) (T : StD s c x s') {u2 u3 : Value} : ∃ q', q'.2.2.2 = q.2.2.2 ∧ zv 4 163 0 [.ref 211, .int (nI c), u2, u3] [] (zQ h q s) = some (some (.int x), zQ h q' s') := by
  obtain ⟨n, hn, e, T⟩ := T
  rcases T with ⟨t1, rfl, rfl⟩ | ⟨t1, t2, ⟨t, j, k1, k2, k3, k4, k5, k6, rfl, rfl⟩ | ⟨t3, ⟨t4, m, k1, k2, rfl, rfl⟩ | ⟨t4, t5, rfl, rfl⟩ | ⟨t4, t5, rfl, rfl⟩⟩⟩
  · exact ⟨q, rfl, q_sdR S hc hn e t1⟩
  · exact ⟨q, rfl, q_sdC S hc hn k4 k2 e t1 t2 k3 k1 k5 k6⟩
  · exact ⟨q, rfl, q_sdF S hc hn k1 k2 e t1 t2 t3 t4⟩
  · exact ⟨q, rfl, by rw [q_sdL S hc hn e t1 t2 t3 t4, if_pos t5]⟩
  · exact ⟨q, rfl, by rw [q_sdL S hc hn e t1 t2 t3 t4, if_neg t5]⟩
theorem q_stP (S : Sh h) (hc : c < 3) (T : StP s c x s') {u2 u3 : Value} : ∃ q', q'.2.2.2 = q.2.2.2 ∧ zv 4 165 0 [.ref 211, .int (nI c), u2, u3] [] (zQ h q s) = some (some (.int x), zQ h q' s') := by
  obtain ⟨n, m, M, hn, hm, h2, hM, e, em, eM, e0, T⟩ := T
  rcases T with ⟨t1, rfl, rfl⟩ | ⟨t1, p, k1, k2, k3, ⟨k4, rfl, rfl⟩ | ⟨k4, k5, rfl, rfl⟩ | ⟨k4, v, ls, k5, k6, k7, k8, rfl, rfl⟩⟩
  · exact ⟨q, rfl, q_ptH S hc hn (by omega) em e t1⟩
  · exact q_ptF S hc hn (by omega) em e t1 k1 k2 k3 eM hM k4
  · exact q_ptX S hc hn (by omega) em e t1 k1 k2 k3 eM (by omega) k5
  · exact q_ptS S hc hn (by omega) em e t1 k1 k2 k3 eM (by omega) k5 k7 k6 k8 (t := 0) e0 (by decide)
theorem q_stT (S : Sh h) (hc : c < 3) (T : StT s c x s') {u2 u3 u4 : Value} : ∃ q', q'.2.2.2 = q.2.2.2 ∧ zv 4 166 0 [.ref 211, .int (nI c), u2, u3, u4] [] (zQ h q s) = some (some (.int x), zQ h q' s') := by
  obtain ⟨n, m, hn, hm, e, em, e0, T⟩ := T
  rcases T with ⟨t1, rfl, rfl⟩ | ⟨t1, p, k1, k2, k3, ⟨k4, rfl, rfl⟩ | ⟨rfl, k4, rfl, rfl⟩⟩
  · exact ⟨q, rfl, q_tkN S hc hn hm em e t1⟩
  · exact q_tkA S hc hn hm k1 em e t1 k2 k3 k4
  · have hp : p = 0 := by omega
    subst hp
    exact q_tkD S hc hn em e t1 k2 k4
theorem q_stO (S : Sh h) (hc : c < 3) (T : StO s c x s') {u2 u3 : Value} : ∃ q', q'.2.2.2 = q.2.2.2 ∧ zv 4 168 0 [.ref 211, .int (nI c), u2, u3] [] (zQ h q s) = some (some (.int x), zQ h q' s') := by
  obtain ⟨n, r, hn, hr, e, er, T⟩ := T
  rcases T with ⟨t1, ⟨t2, rfl, rfl⟩ | ⟨t2, v, k1, k2, rfl, rfl⟩⟩ | ⟨t1, ⟨t2, rfl, rfl⟩ | ⟨t2, ⟨t3, rfl, rfl⟩ | ⟨t3, ⟨t4, j, k1, k2, k3, rfl, rfl⟩ | ⟨t4, t5, rfl, rfl⟩ | ⟨t4, t5, rfl, rfl⟩⟩⟩⟩
  · exact ⟨q, rfl, q_poE S hc hn hr e er t1 t2⟩
  · exact q_poN S hc hn hr k1 e er t1 t2 k2
  · exact ⟨q, rfl, q_poT S hc hn hr e er t1 t2⟩
  · exact ⟨q, rfl, q_poR S hc hn hr e er t1 t2 t3⟩
  · exact ⟨q, rfl, q_poC S hc hn hr k1 e er t1 t2 t3 t4 k2 k3⟩
  · exact ⟨q, rfl, by rw [q_poL S hc hn hr e er t1 t2 t3 t4, if_pos t5]⟩
  · exact ⟨q, rfl, by rw [q_poL S hc hn hr e er t1 t2 t3 t4, if_neg t5]⟩
theorem q_stX (S : Sh h) (hc : c < 3) (T : StX s c x s') {u2 u3 : Value} : ∃ q', q'.2.2.2 = q.2.2.2 ∧ zv 3 170 0 [.ref 211, .int (nI c), u2, u3] [] (zQ h q s) = some (some (.int x), zQ h q' s') := by
  obtain ⟨n, m, j, hn, hm, hj, e, em, k1, k2, T⟩ := T
  rcases T with ⟨t1, rfl, rfl⟩ | ⟨t1, t2, t3, rfl, rfl⟩
  · exact ⟨q, rfl, q_adE S hc hn hm (by omega) (by omega) e em k1 k2 t1⟩
  · exact q_adR S hc hn hm t1 e em k1 t2 t3
theorem q_stY (S : Sh h) (hc : c < 3) (T : StY s c x s') {u2 u3 u4 u5 : Value} : ∃ q', q'.2.2.2 = q.2.2.2 ∧ zv 4 171 0 [.ref 211, .int (nI c), u2, u3, u4, u5] [] (zQ h q s) = some (some (.int x), zQ h q' s') := by
  obtain ⟨n, m, j, M, hn, hm, h2, hM, hj, e, em, eM, k1, k2, T⟩ := T
  rcases T with ⟨t1, rfl, rfl⟩ | ⟨t1, ⟨t2, rfl, rfl⟩ | ⟨t2, t3, rfl, rfl⟩ | ⟨t2, v, t, ls, t3, t4, t5, t6, t7, t8, rfl, rfl⟩⟩
  · exact ⟨q, rfl, q_asE S hc hn (by omega) e k1 t1⟩
  · exact q_asF S hc hn (by omega) hj e em k1 k2 t1 eM hM t2
  · exact q_asX S hc hn (by omega) hj e em k1 k2 t1 eM (by omega) t3
  · exact q_asS S hc hn (by omega) hj e em k1 k2 t1 eM (by omega) t3 t5 t4 t8 t6 t7
theorem q_stp (S : Sh h) (hc : c < 3) (T : StA s c x s') : ∃ q', q'.2.2.2 = q.2.2.2 ∧ zv 5 172 0 [.ref 211, .int (nI c)] [] (zQ h q s) = some (some (.int x), zQ h q' s') := by
  rcases T with ⟨t1, T⟩ | ⟨t1, t2, T⟩ | ⟨t1, t2, T⟩ | ⟨t1, T⟩ | ⟨t1, t2, T⟩ | ⟨t1, t2, T⟩ | ⟨t1, rfl, rfl⟩
  · obtain ⟨q', hw, eq⟩ := q_stD S (q := q) hc T (u2 := .double 0) (u3 := .double 0)
    refine ⟨q', hw, ?_⟩
    simp +decide only [b172_0, b172_6_c1, b172_6_c2, b172_6_c3, b172_6_c4, b172_6_d, b172_36, b172_41, b172_42, b172_48, b172_52, b172_57, b172_60, b172_65, b172_66, b172_71, b172_72, b172_79, b172_83, b172_88, b172_91, b172_96, b172_97, q_oc0, t1, eq, S, hc, zQ_n, zQ_k, S.n, S.k, kx_211, Option.bind_some, Option.toList_some, Option.toList_none, List.cons_append, List.nil_append, List.append_nil, zq_rf, or_false, false_or, or_true, true_or, not_false_eq_true, not_true_eq_false, and_true, true_and, and_false, false_and, and_self, or_self, ite_true, ite_false, ↓reduceIte, Int32.reduceAdd, Int32.reduceSub, Int32.reduceMul, Int32.reduceDiv, Int32.reduceLT, Int32.reduceLE, Int32.reduceToNatClampNeg, Int32.reduceToInt, Int32.reduceOfNat, Nat.reduceAdd, Nat.reduceSub, Nat.reduceMul, Nat.reduceLeDiff, Nat.reduceEqDiff]
  · obtain ⟨q', hw, eq⟩ := q_stP S (q := q) hc T (u2 := .double 0) (u3 := .double 0)
    refine ⟨q', hw, ?_⟩
    simp +decide only [b172_0, b172_6_c1, b172_6_c2, b172_6_c3, b172_6_c4, b172_6_d, b172_36, b172_41, b172_42, b172_48, b172_52, b172_57, b172_60, b172_65, b172_66, b172_71, b172_72, b172_79, b172_83, b172_88, b172_91, b172_96, b172_97, q_oc0, q_oc1, t1, t2, eq, S, hc, zQ_n, zQ_k, S.n, S.k, kx_211, Option.bind_some, Option.toList_some, Option.toList_none, List.cons_append, List.nil_append, List.append_nil, zq_rf, or_false, false_or, or_true, true_or, not_false_eq_true, not_true_eq_false, and_true, true_and, and_false, false_and, and_self, or_self, ite_true, ite_false, ↓reduceIte, Int32.reduceAdd, Int32.reduceSub, Int32.reduceMul, Int32.reduceDiv, Int32.reduceLT, Int32.reduceLE, Int32.reduceToNatClampNeg, Int32.reduceToInt, Int32.reduceOfNat, Nat.reduceAdd, Nat.reduceSub, Nat.reduceMul, Nat.reduceLeDiff, Nat.reduceEqDiff]
  · obtain ⟨q', hw, eq⟩ := q_stT S (q := q) hc T (u2 := .double 0) (u3 := .double 0) (u4 := .double 0)
    refine ⟨q', hw, ?_⟩
    simp +decide only [b172_0, b172_6_c1, b172_6_c2, b172_6_c3, b172_6_c4, b172_6_d, b172_36, b172_41, b172_42, b172_48, b172_52, b172_57, b172_60, b172_65, b172_66, b172_71, b172_72, b172_79, b172_83, b172_88, b172_91, b172_96, b172_97, q_oc0, q_oc1, t1, t2, eq, S, hc, zQ_n, zQ_k, S.n, S.k, kx_211, Option.bind_some, Option.toList_some, Option.toList_none, List.cons_append, List.nil_append, List.append_nil, zq_rf, or_false, false_or, or_true, true_or, not_false_eq_true, not_true_eq_false, and_true, true_and, and_false, false_and, and_self, or_self, ite_true, ite_false, ↓reduceIte, Int32.reduceAdd, Int32.reduceSub, Int32.reduceMul, Int32.reduceDiv, Int32.reduceLT, Int32.reduceLE, Int32.reduceToNatClampNeg, Int32.reduceToInt, Int32.reduceOfNat, Nat.reduceAdd, Nat.reduceSub, Nat.reduceMul, Nat.reduceLeDiff, Nat.reduceEqDiff]
  · obtain ⟨q', hw, eq⟩ := q_stO S (q := q) hc T (u2 := .double 0) (u3 := .double 0)
    refine ⟨q', hw, ?_⟩
    simp +decide only [b172_0, b172_6_c1, b172_6_c2, b172_6_c3, b172_6_c4, b172_6_d, b172_36, b172_41, b172_42, b172_48, b172_52, b172_57, b172_60, b172_65, b172_66, b172_71, b172_72, b172_79, b172_83, b172_88, b172_91, b172_96, b172_97, q_oc0, t1, eq, S, hc, zQ_n, zQ_k, S.n, S.k, kx_211, Option.bind_some, Option.toList_some, Option.toList_none, List.cons_append, List.nil_append, List.append_nil, zq_rf, or_false, false_or, or_true, true_or, not_false_eq_true, not_true_eq_false, and_true, true_and, and_false, false_and, and_self, or_self, ite_true, ite_false, ↓reduceIte, Int32.reduceAdd, Int32.reduceSub, Int32.reduceMul, Int32.reduceDiv, Int32.reduceLT, Int32.reduceLE, Int32.reduceToNatClampNeg, Int32.reduceToInt, Int32.reduceOfNat, Nat.reduceAdd, Nat.reduceSub, Nat.reduceMul, Nat.reduceLeDiff, Nat.reduceEqDiff]
  · obtain ⟨q', hw, eq⟩ := q_stX S (q := q) hc T (u2 := .double 0) (u3 := .double 0)
    refine ⟨q', hw, ?_⟩
    simp +decide only [b172_0, b172_6_c1, b172_6_c2, b172_6_c3, b172_6_c4, b172_6_d, b172_36, b172_41, b172_42, b172_48, b172_52, b172_57, b172_60, b172_65, b172_66, b172_71, b172_72, b172_79, b172_83, b172_88, b172_91, b172_96, b172_97, q_oc0, q_oc11, t1, t2, eq, S, hc, zQ_n, zQ_k, S.n, S.k, kx_211, Option.bind_some, Option.toList_some, Option.toList_none, List.cons_append, List.nil_append, List.append_nil, zq_rf, or_false, false_or, or_true, true_or, not_false_eq_true, not_true_eq_false, and_true, true_and, and_false, false_and, and_self, or_self, ite_true, ite_false, ↓reduceIte, Int32.reduceAdd, Int32.reduceSub, Int32.reduceMul, Int32.reduceDiv, Int32.reduceLT, Int32.reduceLE, Int32.reduceToNatClampNeg, Int32.reduceToInt, Int32.reduceOfNat, Nat.reduceAdd, Nat.reduceSub, Nat.reduceMul, Nat.reduceLeDiff, Nat.reduceEqDiff]
  · obtain ⟨q', hw, eq⟩ := q_stY S (q := q) hc T (u2 := .double 0) (u3 := .double 0) (u4 := .double 0) (u5 := .double 0)
    refine ⟨q', hw, ?_⟩
    simp +decide only [b172_0, b172_6_c1, b172_6_c2, b172_6_c3, b172_6_c4, b172_6_d, b172_36, b172_41, b172_42, b172_48, b172_52, b172_57, b172_60, b172_65, b172_66, b172_71, b172_72, b172_79, b172_83, b172_88, b172_91, b172_96, b172_97, q_oc0, q_oc11, t1, t2, eq, S, hc, zQ_n, zQ_k, S.n, S.k, kx_211, Option.bind_some, Option.toList_some, Option.toList_none, List.cons_append, List.nil_append, List.append_nil, zq_rf, or_false, false_or, or_true, true_or, not_false_eq_true, not_true_eq_false, and_true, true_and, and_false, false_and, and_self, or_self, ite_true, ite_false, ↓reduceIte, Int32.reduceAdd, Int32.reduceSub, Int32.reduceMul, Int32.reduceDiv, Int32.reduceLT, Int32.reduceLE, Int32.reduceToNatClampNeg, Int32.reduceToInt, Int32.reduceOfNat, Nat.reduceAdd, Nat.reduceSub, Nat.reduceMul, Nat.reduceLeDiff, Nat.reduceEqDiff]
  · refine ⟨q, rfl, ?_⟩
    rcases t1 with t1 | t1
    · simp +decide only [b172_0, b172_6_c1, b172_6_c2, b172_6_c3, b172_6_c4, b172_6_d, b172_36, b172_41, b172_42, b172_48, b172_52, b172_57, b172_60, b172_65, b172_66, b172_71, b172_72, b172_79, b172_83, b172_88, b172_91, b172_96, b172_97, q_oc0, t1, S, hc, zQ_n, zQ_k, S.n, S.k, kx_211, Option.bind_some, Option.toList_some, Option.toList_none, List.cons_append, List.nil_append, List.append_nil, zq_rf, or_false, false_or, or_true, true_or, not_false_eq_true, not_true_eq_false, and_true, true_and, and_false, false_and, and_self, or_self, ite_true, ite_false, ↓reduceIte, Int32.reduceAdd, Int32.reduceSub, Int32.reduceMul, Int32.reduceDiv, Int32.reduceLT, Int32.reduceLE, Int32.reduceToNatClampNeg, Int32.reduceToInt, Int32.reduceOfNat, Nat.reduceAdd, Nat.reduceSub, Nat.reduceMul, Nat.reduceLeDiff, Nat.reduceEqDiff]
    · simp +decide only [b172_0, b172_6_c1, b172_6_c2, b172_6_c3, b172_6_c4, b172_6_d, b172_36, b172_41, b172_42, b172_48, b172_52, b172_57, b172_60, b172_65, b172_66, b172_71, b172_72, b172_79, b172_83, b172_88, b172_91, b172_96, b172_97, q_oc0, t1, S, hc, zQ_n, zQ_k, S.n, S.k, kx_211, Option.bind_some, Option.toList_some, Option.toList_none, List.cons_append, List.nil_append, List.append_nil, zq_rf, or_false, false_or, or_true, true_or, not_false_eq_true, not_true_eq_false, and_true, true_and, and_false, false_and, and_self, or_self, ite_true, ite_false, ↓reduceIte, Int32.reduceAdd, Int32.reduceSub, Int32.reduceMul, Int32.reduceDiv, Int32.reduceLT, Int32.reduceLE, Int32.reduceToNatClampNeg, Int32.reduceToInt, Int32.reduceOfNat, Nat.reduceAdd, Nat.reduceSub, Nat.reduceMul, Nat.reduceLeDiff, Nat.reduceEqDiff]
end STQ
end
section
/-! A STEP is always there, and keeps what always holds -/
section IVS
variable {s s' : Nat → Int32} {N R M B : Nat} {L m H r : Nat → Nat} {K C : Nat → Nat → Nat} {f : Nat → Nat} {c : Nat}
theorem fst_ex (P : Nat → Prop) : ∀ k, ∃ p, p ≤ k ∧ (∀ i, i < p → ¬ P i) ∧ (p < k → P p)
  | 0 => ⟨0, Nat.le_refl _, fun i hi => absurd hi (Nat.not_lt_zero i), fun h => absurd h (Nat.lt_irrefl _)⟩
  | k + 1 => by
    obtain ⟨p, h1, h2, h3⟩ := fst_ex P k
    by_cases hp : p < k
    · exact ⟨p, by omega, h2, fun _ => h3 hp⟩
    · have e : p = k := by omega
      subst e
      by_cases hP : P p
      · exact ⟨p, by omega, h2, fun _ => hP⟩
      · refine ⟨p + 1, by omega, fun i hi => ?_, fun w => by omega⟩
        by_cases e : i = p
        · subst e; exact hP
        · exact h2 i (by omega)
theorem hkF_iff {n : Nat} {key : Int32} : ∀ {k : Nat}, hkF s n key k = true ↔ ∃ i, i < k ∧ s (13 * n + (5 + i)) = key
  | 0 => by simp [hkF]
  | k + 1 => by
    rw [hkF, Bool.or_eq_true, hkF_iff, decide_eq_true_eq]
    constructor
    · rintro (⟨i, h1, h2⟩ | h)
      · exact ⟨i, by omega, h2⟩
      · exact ⟨k, by omega, h⟩
    · rintro ⟨i, h1, h2⟩
      by_cases e : i = k
      · subst e; exact Or.inr h2
      · exact Or.inl ⟨i, by omega, h2⟩
theorem nI_lt' {a b : Nat} (ha : a < 1000) (hb : b < 1000) : nI a < nI b ↔ a < b := nI_ltI (by omega) (by omega)
theorem nI_eq' {a b : Nat} (ha : a < 1000) (hb : b < 1000) : nI a = nI b ↔ a = b := nI_eq (by omega) (by omega)
theorem nI_n4 (a : Nat) (ha : a < 1000) : ¬ nI a = -4 := fun w => by
  have h9 : ¬ nI a < 0 := nI_pos (by omega)
  rw [w] at h9
  exact h9 (by decide)
/-- levels are small -/
theorem InvG.lv (I : InvG s N R M B L m H r K C f) {n : Nat} (hn : n < N) : L n < 12 := by
  obtain ⟨⟨⟨a1, a2, a3⟩, b1, d1, G, o, z⟩, -, hS⟩ := I
  obtain ⟨-, -, -, -, -, g8, g9, -⟩ := G n hn
  by_cases h0 : L n = 0
  · omega
  · have h1 := (g8 (by omega)).2.2.2
    have h2 := z (by omega)
    omega
/-- levels of a node that splits are smaller -/
theorem InvG.lvS (I : InvG s N R M B L m H r K C f) {n : Nat} (hn : n < N) (hN : N < 24) (hc : c < 3) (hp : pnC s c = 1) (hm : 2 ≤ m n) : L n < 11 := by
  obtain ⟨⟨⟨a1, a2, a3⟩, b1, d1, G, o, z⟩, -, hS⟩ := I
  obtain ⟨-, -, -, -, -, g8, g9, -⟩ := G n hn
  by_cases h0 : L n = 0
  · omega
  · have h1 := (g8 (by omega)).2.2.2
    have h2 : exN L m n ≤ sumN (exN L m) N := sumN_ge hn
    have h3 : pnC s c ≤ sumN (pnC s) 3 := sumN_ge hc
    unfold exN at h2
    rw [if_neg h0] at h2
    unfold InvS exN at hS
    have h4 : sumN (fun n => if L n = 0 then 0 else m n - 1) N = sumN (exN L m) N := rfl
    omega
/-- how far a client still has to go -/
def mu (s : Nat → Int32) (L f : Nat → Nat) (c : Nat) : Nat :=
  if s (315 + 24 * c) = 1 then 600 + (24 - f (s (315 + 24 * c + 3)).toNatClampNeg)
  else if s (315 + 24 * c) = 2 then 599
  else if s (315 + 24 * c) = 3 then (12 - (s (315 + 24 * c + 10)).toNatClampNeg) * 40 + 8 + (if L (s (315 + 24 * c + 3)).toNatClampNeg < (s (315 + 24 * c + 10)).toNatClampNeg then 26 else 24 - f (s (315 + 24 * c + 3)).toNatClampNeg)
  else if s (315 + 24 * c) = 4 then (12 - (s (315 + 24 * c + 10)).toNatClampNeg) * 40 + 5
  else 0
theorem mu_1 (h : s (315 + 24 * c) = 1) {a : Nat} (ha : s (315 + 24 * c + 3) = nI a) (h9 : a < 1000) : mu s L f c = 600 + (24 - f a) := by rw [mu, if_pos h, ha, nI_clamp (by omega)]
theorem mu_2 (h : s (315 + 24 * c) = 2) : mu s L f c = 599 := by rw [mu, if_neg (by rw [h]; decide), if_pos h]
theorem mu_3 (h : s (315 + 24 * c) = 3) {a t : Nat} (ha : s (315 + 24 * c + 3) = nI a) (ht : s (315 + 24 * c + 10) = nI t) (h9 : a < 1000) (h8 : t < 1000) : mu s L f c = (12 - t) * 40 + 8 + (if L a < t then 26 else 24 - f a) := by
  rw [mu, if_neg (by rw [h]; decide), if_neg (by rw [h]; decide), if_pos h, ha, ht, nI_clamp (by omega), nI_clamp (by omega)]
theorem mu_4 (h : s (315 + 24 * c) = 4) {t : Nat} (ht : s (315 + 24 * c + 10) = nI t) (h8 : t < 1000) : mu s L f c = (12 - t) * 40 + 5 := by
  rw [mu, if_neg (by rw [h]; decide), if_neg (by rw [h]; decide), if_neg (by rw [h]; decide), if_pos h, ht, nI_clamp (by omega)]
theorem mu_5 (h : s (315 + 24 * c) = 5) : mu s L f c = 0 := by
  rw [mu, if_neg (by rw [h]; decide), if_neg (by rw [h]; decide), if_neg (by rw [h]; decide), if_neg (by rw [h]; decide)]
/-- it ends, and no node changes -/
theorem InvG.done (I : InvG s N R M B L m H r K C f) (hc : c < 3) (e : ∀ k, k < 315 + 24 * c ∨ 315 + 24 * c + 24 ≤ k → s' k = s k) (h5 : s' (315 + 24 * c) = 5) : InvG s' N R M B L m H r K C f := by
  refine I.cl hc e (clG.off (k := 5) h5 (Or.inr rfl)) ?_ (fun w => ?_)
  · have : pnC s' c = 0 := by
      unfold pnC
      rw [h5]
      exact if_neg (fun w => by rcases w.1 with q | q <;> exact absurd q (by decide))
    omega
  · unfold hoC at w
    rw [h5] at w
    rcases w with q | q <;> exact absurd q (by decide)
/-- the clients behind a step of one of them that holds nothing then -/
theorem InvC.gen {N' R' : Nat} {L' H' f' : Nat → Nat} (I : InvC s N R L H f) (hc : c < 3) (ed : ∀ d, d < 3 → d ≠ c → ∀ k, k < 24 → s' (315 + 24 * d + k) = s (315 + 24 * d + k)) (hk : clG s' N' R' L' H' f' c) (hh : ¬ hoC s' c) (hN : N ≤ N') (hL : ∀ b, b < N → L' b = L b ∧ f b ≤ f' b) (hR : L R ≤ L' R') (hH : ∀ d, d < 3 → d ≠ c → ∀ a, a < N → s (315 + 24 * d) = 4 → s (315 + 24 * d + 3) = nI a → H a ≤ H' a) : InvC s' N' R' L' H' f' := by
  obtain ⟨i2, i3⟩ := I
  have ed0 : ∀ d, d < 3 → d ≠ c → s' (315 + 24 * d) = s (315 + 24 * d) := fun d hd hn => ed d hd hn 0 (by decide)
  refine ⟨fun d hd => ?_, fun a b ha hb hab h1 h2 => ?_⟩
  · by_cases hdc : d = c
    · subst hdc; exact hk
    · exact (i2 d hd).mono hd (ed d hd hdc) hN hL hR (hH d hd hdc)
  · have hac : a ≠ c := fun w => hh (by rw [← w]; exact h1)
    have hbc : b ≠ c := fun w => hh (by rw [← w]; exact h2)
    have h1' : hoC s a := by unfold hoC at *; rw [ed0 a ha hac] at h1; exact h1
    have h2' : hoC s b := by unfold hoC at *; rw [ed0 b hb hbc] at h2; exact h2
    rw [ed a ha hac 3 (by decide), ed b hb hbc 3 (by decide)]
    exact i3 a b ha hb hab h1' h2'
theorem pn_sum (hc : c < 3) (ed : ∀ d, d < 3 → d ≠ c → ∀ k, k < 24 → s' (315 + 24 * d + k) = s (315 + 24 * d + k)) : sumN (pnC s') 3 + pnC s c = sumN (pnC s) 3 + pnC s' c := sumN_one hc (fun d hd hn => pnC_e (ed d hd hn 0 (by decide)) (ed d hd hn 11 (by decide)))
theorem pn_0 {k : Nat} (h : s (315 + 24 * c) = nI k) (hk : k = 0 ∨ k = 1 ∨ k = 2 ∨ k = 5) : pnC s c = 0 := by
  unfold pnC
  rw [h]
  refine if_neg (fun w => ?_)
  rcases hk with rfl | rfl | rfl | rfl <;> rcases w.1 with q | q <;> exact absurd q (by decide)
theorem pn_1 (h : s (315 + 24 * c) = 3 ∨ s (315 + 24 * c) = 4) (hd : ¬ s (315 + 24 * c + 11) = 1) : pnC s c = 1 := by
  unfold pnC
  exact if_pos ⟨h, hd⟩
theorem pn_d (hd : s (315 + 24 * c + 11) = 1) : pnC s c = 0 := by
  unfold pnC
  exact if_neg (fun w => w.2 hd)
theorem pn_le : pnC s c ≤ 1 := by
  unfold pnC
  split <;> omega
def StI (s : Nat → Int32) (L f : Nat → Nat) (c : Nat) : Prop := ∃ x s' N' R' M' B' L' m' H' r' K' C' f', StA s c x s' ∧ InvG s' N' R' M' B' L' m' H' r' K' C' f' ∧ (x = 0 → s' = s) ∧ (¬ x = 0 → mu s' L' f' c < mu s L f c)
/-- DOWN -/
theorem stI_1 (I : InvG s N R M B L m H r K C f) (hc : c < 3) (h1 : s (315 + 24 * c) = 1) : StI s L f c := by
  obtain ⟨iN, iC, iS⟩ := id I
  obtain ⟨⟨a1, a2, a3⟩, ⟨b1, b2⟩, ⟨d1, d2, d3⟩, G, o, z⟩ := iN
  obtain ⟨k, k1, k2, k3⟩ := iC.1 c hc
  have hk : k = 1 := by
    rw [h1] at k1
    exact ((nI_eq' (a := 1) (by decide) (by omega)).mp k1).symm
  subst hk
  obtain ⟨⟨ac, c1, c2⟩, ⟨ke, e1, e2⟩, a, at1, at2, at3, -, -⟩ := k3 (by decide) (by decide)
  obtain ⟨⟨g1, g2, g3⟩, g4, g5, g6, g7, g8, g9, g10, g11, g12⟩ := G a at2
  have muS : mu s L f c = 600 + (24 - f a) := mu_1 h1 at1 (by omega)
  by_cases hr : s (13 * a + 4) = 1 ∨ s (13 * a + 2) < s (315 + 24 * c + 2)
  · have hR : s (13 * a + 3) = nI (r a) ∧ r a < N ∧ L (r a) = L a ∧ f a < f (r a) := by
      rcases g4 with ⟨q1, q2⟩ | q
      · rcases hr with w | w
        · rcases g5 with w2 | ⟨-, w2, -⟩
          · rw [w2] at w; exact absurd w (by decide)
          · exact absurd q1 w2
        · rw [g3, e1, nI_lt' (by omega) (by omega)] at w
          omega
      · exact q
    obtain ⟨r1, r2, r3, r4⟩ := hR
    have e3 : up s (315 + 24 * c + 3) (nI (r a)) (315 + 24 * c + 3) = nI (r a) := up_s _ _ _
    refine ⟨1, up s (315 + 24 * c + 3) (nI (r a)), N, R, M, B, L, m, H, r, K, C, f, Or.inl ⟨h1, a, by omega, at1, Or.inl ⟨hr, rfl, by rw [r1]⟩⟩, ?_, fun w => absurd w (by decide), fun _ => ?_⟩
    · refine I.cl hc (fun k hk => up_n _ _ (by omega)) ⟨1, by rw [uc_c0 _ _ (by decide)]; exact h1, by decide, fun _ _ => ⟨⟨ac, by rw [uc_cc _ _ (by decide)]; exact c1, c2⟩, ⟨ke, by rw [uc_cc _ _ (by decide)]; exact e1, e2⟩, r a, e3, r2, fun l hl => by rw [uc_cc _ _ (by omega)]; exact at3 l hl, fun w => absurd w (by decide), fun w => absurd w (by decide)⟩⟩ ?_ (fun w => ?_)
      · rw [pn_0 (k := 1) (by rw [uc_c0 _ _ (by decide)]; exact h1) (by omega)]; omega
      · unfold hoC at w
        rw [uc_c0 _ _ (by decide), h1] at w
        rcases w with q | q <;> exact absurd q (by decide)
    · rw [muS, mu_1 (by rw [uc_c0 _ _ (by decide)]; exact h1) e3 (by omega)]
      have := (G (r a) r2).2.2.2.2.2.2.2.2.2
      omega
  · have hd : ¬ s (13 * a + 4) = 1 := fun w => hr (Or.inl w)
    have hh : ¬ s (13 * a + 2) < s (315 + 24 * c + 2) := fun w => hr (Or.inr w)
    have hkH : ke ≤ H a := by
      rw [g3, e1, nI_lt' (by omega) (by omega)] at hh
      omega
    by_cases hl : 0 < L a
    · obtain ⟨m0, mK, mC, mB⟩ := g8 hl
      have ht := I.lv at2
      obtain ⟨j, j1, j2, j3⟩ := fst_ex (fun i => ¬ s (13 * a + (5 + i)) < s (315 + 24 * c + 2)) (m a)
      have hj : j < m a := by
        refine Nat.not_le.mp (fun w => ?_)
        have h9 := j2 (m a - 1) (by omega)
        refine h9 ?_
        rw [(g6 (m a - 1) (by omega)).1, e1, nI_lt' (by have := (g6 (m a - 1) (by omega)).2; omega) (by omega), mK]
        omega
      obtain ⟨q1, q2, q3⟩ := mC j hj
      have f9 := o a (C a j) at2 q2 (by omega)
      have e3 : up (up s (315 + 24 * c + (12 + L a)) (nI a)) (315 + 24 * c + 3) (nI (C a j)) (315 + 24 * c + 3) = nI (C a j) := up_s _ _ _
      have e0 : up (up s (315 + 24 * c + (12 + L a)) (nI a)) (315 + 24 * c + 3) (nI (C a j)) (315 + 24 * c) = 1 := by rw [uc_c0 _ _ (by decide), uc_c0 _ _ (by omega)]; exact h1
      refine ⟨2, up (up s (315 + 24 * c + (12 + L a)) (nI a)) (315 + 24 * c + 3) (nI (C a j)), N, R, M, B, L, m, H, r, K, C, f, Or.inl ⟨h1, a, by omega, at1, Or.inr ⟨hd, hh, Or.inl ⟨L a, j, hl, ht, g1, by omega, fun i hi => Decidable.not_not.mp (j2 i hi), j3 hj, rfl, by rw [q1]⟩⟩⟩, ?_, fun w => absurd w (by decide), fun _ => ?_⟩
      · refine I.cl hc (fun k hk => by rw [up_n _ _ (by omega), up_n _ _ (by omega)]) ⟨1, e0, by decide, fun _ _ => ⟨⟨ac, by rw [uc_cc _ _ (by decide), uc_cc _ _ (by omega)]; exact c1, c2⟩, ⟨ke, by rw [uc_cc _ _ (by decide), uc_cc _ _ (by omega)]; exact e1, e2⟩, C a j, e3, q2, fun l hl => ?_, fun w => absurd w (by decide), fun w => absurd w (by decide)⟩⟩ ?_ (fun w => ?_)
        · rw [uc_cc _ _ (by omega)]
          by_cases hla : l = L a
          · subst hla
            exact Or.inr ⟨a, up_s _ _ _, at2, rfl⟩
          · rw [uc_cc _ _ (by omega)]
            exact at3 l hl
        · rw [pn_0 (k := 1) e0 (by omega)]; omega
        · unfold hoC at w
          rw [e0] at w
          rcases w with q | q <;> exact absurd q (by decide)
      · rw [muS, mu_1 e0 e3 (by omega)]
        have := (G (C a j) q2).2.2.2.2.2.2.2.2.2
        omega
    · have h0 : L a = 0 := by omega
      have hs0 : s (13 * a) = 0 := by rw [g1, h0]; rfl
      by_cases hac : s (315 + 24 * c + 1) = 0
      · have e0 : up (up s (315 + 24 * c + 4) (zi_bI (hkF s a (s (315 + 24 * c + 2)) (m a)))) (315 + 24 * c) 5 (315 + 24 * c) = 5 := up_s _ _ _
        refine ⟨3, up (up s (315 + 24 * c + 4) (zi_bI (hkF s a (s (315 + 24 * c + 2)) (m a)))) (315 + 24 * c) 5, N, R, M, B, L, m, H, r, K, C, f, Or.inl ⟨h1, a, by omega, at1, Or.inr ⟨hd, hh, Or.inr ⟨hs0, Or.inl ⟨hac, m a, by omega, g2, rfl, rfl⟩⟩⟩⟩, I.done hc (fun k hk => by rw [up_n _ _ (by omega), up_n _ _ (by omega)]) e0, fun w => absurd w (by decide), fun _ => by rw [muS, mu_5 e0]; omega⟩
      · by_cases hlk : lkB s (nI a) = -4
        · have e0 : up s (315 + 24 * c) 2 (315 + 24 * c) = 2 := up_s _ _ _
          have ex : ∀ w, w ≠ 0 → up s (315 + 24 * c) 2 (315 + 24 * c + w) = s (315 + 24 * c + w) := fun w hw => uc_0c _ _ hw
          refine ⟨4, up s (315 + 24 * c) 2, N, R, M, B, L, m, H, r, K, C, f, Or.inl ⟨h1, a, by omega, at1, Or.inr ⟨hd, hh, Or.inr ⟨hs0, Or.inr (Or.inl ⟨hac, hlk, rfl, rfl⟩)⟩⟩⟩, ?_, fun w => absurd w (by decide), fun _ => by rw [muS, mu_2 e0]; omega⟩
          refine I.cl hc (fun k hk => up_n _ _ (by omega)) ⟨2, e0, by decide, fun _ _ => ⟨⟨ac, by rw [ex 1 (by decide)]; exact c1, c2⟩, ⟨ke, by rw [ex 2 (by decide)]; exact e1, e2⟩, a, by rw [ex 3 (by decide)]; exact at1, at2, fun l hl => by rw [ex (12 + l) (by omega)]; exact at3 l hl, fun _ => h0, fun w => absurd w (by decide)⟩⟩ ?_ (fun _ => Or.inr (fun d hd hho => ?_))
          · rw [pn_0 (k := 2) e0 (by omega)]; omega
          · rw [ex 3 (by decide), at1]
            exact lkB_no hlk d hd hho
        · exact ⟨0, s, N, R, M, B, L, m, H, r, K, C, f, Or.inl ⟨h1, a, by omega, at1, Or.inr ⟨hd, hh, Or.inr ⟨hs0, Or.inr (Or.inr ⟨hac, hlk, rfl, rfl⟩)⟩⟩⟩, I, fun _ => rfl, fun w => absurd rfl w⟩
end IVS
end
