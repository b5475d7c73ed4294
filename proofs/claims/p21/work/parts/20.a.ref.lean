/-! THE REFERENCE: its row of numbers (cell 212), read and written -/
section R20
variable {h : zi_Hp}
theorem jx_13 (n w : Nat) : (13 : Int32) * nI n + nI w = nI (13 * n + w) := by
  show Int32.ofNat 13 * Int32.ofNat n + Int32.ofNat w = Int32.ofNat (13 * n + w)
  rw [Int32.ofNat_add, Int32.ofNat_mul]
theorem jx_24 (c w : Nat) : (315 : Int32) + 24 * nI c + nI w = nI (315 + 24 * c + w) := by
  show Int32.ofNat 315 + Int32.ofNat 24 * Int32.ofNat c + Int32.ofNat w = Int32.ofNat (315 + 24 * c + w)
  rw [Int32.ofNat_add, Int32.ofNat_add, Int32.ofNat_mul]
theorem r_r0 (S : Sh h) : zh_r h 211 0 = .ref 212 := by rw [S.r, rx_211_0]
theorem r_of (S : Sh h) {n w : Nat} (hn : n < 24) (hw : w < 13) : zv 1 144 0 [.ref 211, .int (nI n), .int (nI w)] [] h = some (some (.int (zh_i h 212 (13 * n + w))), h) := by
  rw [b144_0 (by rw [S.n]; decide) (by rw [S.k, kx_211]) (by rw [r_r0 S, zq_rf]) (by rw [r_r0 S, zq_rf, S.n]; decide) (by rw [r_r0 S, zq_rf, S.k, kx_212, jx_13]; exact zj_n (by omega) (by decide)) (by rw [r_r0 S, zq_rf, S.k, kx_212]), r_r0 S, zq_rf, jx_13, nI_clamp (by omega)]
theorem r_nb (S : Sh h) {n w : Nat} {v : Int32} (hn : n < 24) (hw : w < 13) : zv 1 145 0 [.ref 211, .int (nI n), .int (nI w), .int v] [] h = some (none, zh_wi h 212 (13 * n + w) v) := by
  rw [b145_0 (by rw [S.n]; decide) (by rw [S.k, kx_211]) (by rw [r_r0 S, zq_rf]) (by rw [r_r0 S, zq_rf, S.n]; decide) (by rw [r_r0 S, zq_rf, S.k, kx_212, jx_13]; exact zj_n (by omega) (by decide)) (by rw [r_r0 S, zq_rf, S.k, kx_212]), r_r0 S, zq_rf, jx_13, nI_clamp (by omega)]
theorem r_oc (S : Sh h) {c w : Nat} (hc : c < 3) (hw : w < 24) : zv 1 146 0 [.ref 211, .int (nI c), .int (nI w)] [] h = some (some (.int (zh_i h 212 (315 + 24 * c + w))), h) := by
  rw [b146_0 (by rw [S.n]; decide) (by rw [S.k, kx_211]) (by rw [r_r0 S, zq_rf]) (by rw [r_r0 S, zq_rf, S.n]; decide) (by rw [r_r0 S, zq_rf, S.k, kx_212, jx_24]; exact zj_n (by omega) (by decide)) (by rw [r_r0 S, zq_rf, S.k, kx_212]), r_r0 S, zq_rf, jx_24, nI_clamp (by omega)]
theorem r_cb (S : Sh h) {c w : Nat} {v : Int32} (hc : c < 3) (hw : w < 24) : zv 1 147 0 [.ref 211, .int (nI c), .int (nI w), .int v] [] h = some (none, zh_wi h 212 (315 + 24 * c + w) v) := by
  rw [b147_0 (by rw [S.n]; decide) (by rw [S.k, kx_211]) (by rw [r_r0 S, zq_rf]) (by rw [r_r0 S, zq_rf, S.n]; decide) (by rw [r_r0 S, zq_rf, S.k, kx_212, jx_24]; exact zj_n (by omega) (by decide)) (by rw [r_r0 S, zq_rf, S.k, kx_212]), r_r0 S, zq_rf, jx_24, nI_clamp (by omega)]
theorem r_of0 (S : Sh h) {n : Nat} (hn : n < 24) : zv 1 144 0 [.ref 211, .int (nI n), .int 0] [] h = some (some (.int (zh_i h 212 (13 * n))), h) := r_of S hn (w := 0) (by decide)
theorem r_nb0 (S : Sh h) {n : Nat} {v : Int32} (hn : n < 24) : zv 1 145 0 [.ref 211, .int (nI n), .int 0, .int v] [] h = some (none, zh_wi h 212 (13 * n) v) := r_nb S hn (w := 0) (by decide)
theorem r_of1 (S : Sh h) {n : Nat} (hn : n < 24) : zv 1 144 0 [.ref 211, .int (nI n), .int 1] [] h = some (some (.int (zh_i h 212 (13 * n + 1))), h) := r_of S hn (w := 1) (by decide)
theorem r_nb1 (S : Sh h) {n : Nat} {v : Int32} (hn : n < 24) : zv 1 145 0 [.ref 211, .int (nI n), .int 1, .int v] [] h = some (none, zh_wi h 212 (13 * n + 1) v) := r_nb S hn (w := 1) (by decide)
theorem r_of2 (S : Sh h) {n : Nat} (hn : n < 24) : zv 1 144 0 [.ref 211, .int (nI n), .int 2] [] h = some (some (.int (zh_i h 212 (13 * n + 2))), h) := r_of S hn (w := 2) (by decide)
theorem r_nb2 (S : Sh h) {n : Nat} {v : Int32} (hn : n < 24) : zv 1 145 0 [.ref 211, .int (nI n), .int 2, .int v] [] h = some (none, zh_wi h 212 (13 * n + 2) v) := r_nb S hn (w := 2) (by decide)
theorem r_of3 (S : Sh h) {n : Nat} (hn : n < 24) : zv 1 144 0 [.ref 211, .int (nI n), .int 3] [] h = some (some (.int (zh_i h 212 (13 * n + 3))), h) := r_of S hn (w := 3) (by decide)
theorem r_nb3 (S : Sh h) {n : Nat} {v : Int32} (hn : n < 24) : zv 1 145 0 [.ref 211, .int (nI n), .int 3, .int v] [] h = some (none, zh_wi h 212 (13 * n + 3) v) := r_nb S hn (w := 3) (by decide)
theorem r_of4 (S : Sh h) {n : Nat} (hn : n < 24) : zv 1 144 0 [.ref 211, .int (nI n), .int 4] [] h = some (some (.int (zh_i h 212 (13 * n + 4))), h) := r_of S hn (w := 4) (by decide)
theorem r_nb4 (S : Sh h) {n : Nat} {v : Int32} (hn : n < 24) : zv 1 145 0 [.ref 211, .int (nI n), .int 4, .int v] [] h = some (none, zh_wi h 212 (13 * n + 4) v) := r_nb S hn (w := 4) (by decide)
theorem r_oc0 (S : Sh h) {c : Nat} (hc : c < 3) : zv 1 146 0 [.ref 211, .int (nI c), .int 0] [] h = some (some (.int (zh_i h 212 (315 + 24 * c))), h) := r_oc S hc (w := 0) (by decide)
theorem r_cb0 (S : Sh h) {c : Nat} {v : Int32} (hc : c < 3) : zv 1 147 0 [.ref 211, .int (nI c), .int 0, .int v] [] h = some (none, zh_wi h 212 (315 + 24 * c) v) := r_cb S hc (w := 0) (by decide)
theorem r_oc1 (S : Sh h) {c : Nat} (hc : c < 3) : zv 1 146 0 [.ref 211, .int (nI c), .int 1] [] h = some (some (.int (zh_i h 212 (315 + 24 * c + 1))), h) := r_oc S hc (w := 1) (by decide)
theorem r_cb1 (S : Sh h) {c : Nat} {v : Int32} (hc : c < 3) : zv 1 147 0 [.ref 211, .int (nI c), .int 1, .int v] [] h = some (none, zh_wi h 212 (315 + 24 * c + 1) v) := r_cb S hc (w := 1) (by decide)
theorem r_oc2 (S : Sh h) {c : Nat} (hc : c < 3) : zv 1 146 0 [.ref 211, .int (nI c), .int 2] [] h = some (some (.int (zh_i h 212 (315 + 24 * c + 2))), h) := r_oc S hc (w := 2) (by decide)
theorem r_cb2 (S : Sh h) {c : Nat} {v : Int32} (hc : c < 3) : zv 1 147 0 [.ref 211, .int (nI c), .int 2, .int v] [] h = some (none, zh_wi h 212 (315 + 24 * c + 2) v) := r_cb S hc (w := 2) (by decide)
theorem r_oc3 (S : Sh h) {c : Nat} (hc : c < 3) : zv 1 146 0 [.ref 211, .int (nI c), .int 3] [] h = some (some (.int (zh_i h 212 (315 + 24 * c + 3))), h) := r_oc S hc (w := 3) (by decide)
theorem r_cb3 (S : Sh h) {c : Nat} {v : Int32} (hc : c < 3) : zv 1 147 0 [.ref 211, .int (nI c), .int 3, .int v] [] h = some (none, zh_wi h 212 (315 + 24 * c + 3) v) := r_cb S hc (w := 3) (by decide)
theorem r_oc4 (S : Sh h) {c : Nat} (hc : c < 3) : zv 1 146 0 [.ref 211, .int (nI c), .int 4] [] h = some (some (.int (zh_i h 212 (315 + 24 * c + 4))), h) := r_oc S hc (w := 4) (by decide)
theorem r_cb4 (S : Sh h) {c : Nat} {v : Int32} (hc : c < 3) : zv 1 147 0 [.ref 211, .int (nI c), .int 4, .int v] [] h = some (none, zh_wi h 212 (315 + 24 * c + 4) v) := r_cb S hc (w := 4) (by decide)
theorem r_oc5 (S : Sh h) {c : Nat} (hc : c < 3) : zv 1 146 0 [.ref 211, .int (nI c), .int 5] [] h = some (some (.int (zh_i h 212 (315 + 24 * c + 5))), h) := r_oc S hc (w := 5) (by decide)
theorem r_cb5 (S : Sh h) {c : Nat} {v : Int32} (hc : c < 3) : zv 1 147 0 [.ref 211, .int (nI c), .int 5, .int v] [] h = some (none, zh_wi h 212 (315 + 24 * c + 5) v) := r_cb S hc (w := 5) (by decide)
theorem r_oc6 (S : Sh h) {c : Nat} (hc : c < 3) : zv 1 146 0 [.ref 211, .int (nI c), .int 6] [] h = some (some (.int (zh_i h 212 (315 + 24 * c + 6))), h) := r_oc S hc (w := 6) (by decide)
theorem r_cb6 (S : Sh h) {c : Nat} {v : Int32} (hc : c < 3) : zv 1 147 0 [.ref 211, .int (nI c), .int 6, .int v] [] h = some (none, zh_wi h 212 (315 + 24 * c + 6) v) := r_cb S hc (w := 6) (by decide)
theorem r_oc7 (S : Sh h) {c : Nat} (hc : c < 3) : zv 1 146 0 [.ref 211, .int (nI c), .int 7] [] h = some (some (.int (zh_i h 212 (315 + 24 * c + 7))), h) := r_oc S hc (w := 7) (by decide)
theorem r_cb7 (S : Sh h) {c : Nat} {v : Int32} (hc : c < 3) : zv 1 147 0 [.ref 211, .int (nI c), .int 7, .int v] [] h = some (none, zh_wi h 212 (315 + 24 * c + 7) v) := r_cb S hc (w := 7) (by decide)
theorem r_oc8 (S : Sh h) {c : Nat} (hc : c < 3) : zv 1 146 0 [.ref 211, .int (nI c), .int 8] [] h = some (some (.int (zh_i h 212 (315 + 24 * c + 8))), h) := r_oc S hc (w := 8) (by decide)
theorem r_cb8 (S : Sh h) {c : Nat} {v : Int32} (hc : c < 3) : zv 1 147 0 [.ref 211, .int (nI c), .int 8, .int v] [] h = some (none, zh_wi h 212 (315 + 24 * c + 8) v) := r_cb S hc (w := 8) (by decide)
theorem r_oc9 (S : Sh h) {c : Nat} (hc : c < 3) : zv 1 146 0 [.ref 211, .int (nI c), .int 9] [] h = some (some (.int (zh_i h 212 (315 + 24 * c + 9))), h) := r_oc S hc (w := 9) (by decide)
theorem r_cb9 (S : Sh h) {c : Nat} {v : Int32} (hc : c < 3) : zv 1 147 0 [.ref 211, .int (nI c), .int 9, .int v] [] h = some (none, zh_wi h 212 (315 + 24 * c + 9) v) := r_cb S hc (w := 9) (by decide)
theorem r_oc10 (S : Sh h) {c : Nat} (hc : c < 3) : zv 1 146 0 [.ref 211, .int (nI c), .int 10] [] h = some (some (.int (zh_i h 212 (315 + 24 * c + 10))), h) := r_oc S hc (w := 10) (by decide)
theorem r_cb10 (S : Sh h) {c : Nat} {v : Int32} (hc : c < 3) : zv 1 147 0 [.ref 211, .int (nI c), .int 10, .int v] [] h = some (none, zh_wi h 212 (315 + 24 * c + 10) v) := r_cb S hc (w := 10) (by decide)
theorem r_oc11 (S : Sh h) {c : Nat} (hc : c < 3) : zv 1 146 0 [.ref 211, .int (nI c), .int 11] [] h = some (some (.int (zh_i h 212 (315 + 24 * c + 11))), h) := r_oc S hc (w := 11) (by decide)
theorem r_cb11 (S : Sh h) {c : Nat} {v : Int32} (hc : c < 3) : zv 1 147 0 [.ref 211, .int (nI c), .int 11, .int v] [] h = some (none, zh_wi h 212 (315 + 24 * c + 11) v) := r_cb S hc (w := 11) (by decide)
theorem r_flag {x : Int32} : zv 1 143 0 [.int x] [] h = some (some (.int (if x = 0 then 0 else 1)), h) := by
  rw [b143_0]
  by_cases hx : x = 0
  · rw [if_pos hx, if_pos hx, b143_8, b143_9]
  · rw [if_neg hx, if_neg hx, b143_4, b143_9]
/-- who holds a node -/
abbrev lkO (s : Nat → Int32) (c : Nat) (x : Int32) : Prop := (s (315 + 24 * c) = 2 ∨ s (315 + 24 * c) = 4) ∧ s (315 + 24 * c + 3) = x
def lkB (s : Nat → Int32) (x : Int32) : Int32 := if lkO s 0 x then 0 else if lkO s 1 x then 1 else if lkO s 2 x then 2 else -4
theorem r_lkI (S : Sh h) {c : Nat} (hc : c < 3) {x f : Int32} {u : Value} : ∃ u', zv 2 149 5 [.ref 211, .int x, .int f, .int (nI c), u] [] h = zv 2 149 5 [.ref 211, .int x, .int (if lkO (zh_i h 212) c x then nI c else f), .int (nI c + (-1)), u'] [] h := by
  have g0 : (211 : Nat) < zh_n h := by rw [S.n]; decide
  have g1 : (zh_k h 211).1 = 8 := by rw [S.k, kx_211]
  rw [b149_5, if_neg (nI_pos (by omega)), b149_9 g0 g1, r_oc0 S hc]
  simp only [Option.bind_some, Option.toList_some, List.cons_append, List.nil_append]
  rw [b149_15]
  by_cases a2 : zh_i h 212 (315 + 24 * c) = 2
  · rw [if_pos a2, b149_29, b149_34, if_neg (by decide), b149_41 g0 g1, r_oc3 S hc]
    simp only [Option.bind_some, Option.toList_some, List.cons_append, List.nil_append]
    rw [b149_47]
    by_cases a3 : zh_i h 212 (315 + 24 * c + 3) = x
    · rw [if_pos a3, if_pos ⟨Or.inl a2, a3⟩, b149_51, b149_56]
      exact ⟨_, rfl⟩
    · rw [if_neg a3, if_neg (fun q => a3 q.2), b149_55, b149_56]
      exact ⟨_, rfl⟩
  · rw [if_neg a2, b149_19 g0 g1, r_oc0 S hc]
    simp only [Option.bind_some, Option.toList_some, List.cons_append, List.nil_append]
    rw [b149_25]
    by_cases a4 : zh_i h 212 (315 + 24 * c) = 4
    · rw [if_pos a4, b149_29, b149_34, if_neg (by decide), b149_41 g0 g1, r_oc3 S hc]
      simp only [Option.bind_some, Option.toList_some, List.cons_append, List.nil_append]
      rw [b149_47]
      by_cases a3 : zh_i h 212 (315 + 24 * c + 3) = x
      · rw [if_pos a3, if_pos ⟨Or.inr a4, a3⟩, b149_51, b149_56]
        exact ⟨_, rfl⟩
      · rw [if_neg a3, if_neg (fun q => a3 q.2), b149_55, b149_56]
        exact ⟨_, rfl⟩
    · rw [if_neg a4, b149_33, b149_34, if_pos rfl, b149_55, b149_56, if_neg (fun q => q.1.elim a2 a4)]
      exact ⟨_, rfl⟩
theorem r_lk (S : Sh h) {x : Int32} {u2 u3 u4 : Value} : zv 2 149 0 [.ref 211, .int x, u2, u3, u4] [] h = some (some (.int (lkB (zh_i h 212) x)), h) := by
  rw [b149_0]
  obtain ⟨v2, e2⟩ := r_lkI S (c := 2) (by decide) (x := x) (f := -4) (u := u4)
  rw [show (2 : Int32) = nI 2 from rfl, e2, show nI 2 + (-1) = nI 1 from rfl]
  obtain ⟨v1, e1⟩ := r_lkI S (c := 1) (by decide) (x := x) (f := if lkO (zh_i h 212) 2 x then nI 2 else -4) (u := v2)
  rw [e1, show nI 1 + (-1) = nI 0 from rfl]
  obtain ⟨v0, e0⟩ := r_lkI S (c := 0) (by decide) (x := x) (f := if lkO (zh_i h 212) 1 x then nI 1 else if lkO (zh_i h 212) 2 x then nI 2 else -4) (u := v1)
  rw [e0, b149_5, if_pos (by decide), b149_63]
  rfl
/-- whether a node has a key -/
def hkF (s : Nat → Int32) (n : Nat) (key : Int32) : Nat → Bool
  | 0 => false
  | m + 1 => hkF s n key m || decide (s (13 * n + (5 + m)) = key)
theorem zi_bI_t : zi_bI true = 1 := rfl
theorem zi_bI_f : zi_bI false = 0 := rfl
theorem bI_01 (b : Bool) : zi_bI b = 0 ∨ zi_bI b = 1 := by cases b <;> simp [zi_bI]
theorem r_hasL (S : Sh h) {n m : Nat} (hn : n < 24) (hm : m ≤ 4) (em : zh_i h 212 (13 * n + 1) = nI m) {key : Int32} : ∀ d i, i + d = m → zv 2 150 5 [.ref 211, .int (nI n), .int key, .int (zi_bI (hkF (zh_i h 212) n key i)), .int (nI i)] [] h = some (some (.int (zi_bI (hkF (zh_i h 212) n key m))), h) := by
  have g0 : (211 : Nat) < zh_n h := by rw [S.n]; decide
  have g1 : (zh_k h 211).1 = 8 := by rw [S.k, kx_211]
  intro d
  induction d with
  | zero =>
    intro i hi
    have e : i = m := by omega
    subst e
    rw [b150_5 g0 g1, r_of1 S hn]
    simp only [Option.bind_some, Option.toList_some, List.cons_append, List.nil_append]
    rw [b150_13, em, if_neg (nI_nlt (Nat.le_refl _) (by omega)), b150_45 (bI_01 _)]
  | succ d ih =>
    intro i hi
    have e5 : (5 : Int32) + nI i = nI (5 + i) := nI_add 5 i
    rw [b150_5 g0 g1, r_of1 S hn]
    simp only [Option.bind_some, Option.toList_some, List.cons_append, List.nil_append]
    rw [b150_13, em, if_pos (nI_lt (by omega) (by omega)), b150_16]
    have key9 : zv 2 150 38 [.ref 211, .int (nI n), .int key, .int (zi_bI (hkF (zh_i h 212) n key i)), .int (nI i)] [.int (zi_bI (hkF (zh_i h 212) n key (i + 1)))] h = some (some (.int (zi_bI (hkF (zh_i h 212) n key m))), h) := by
      rw [b150_38, nI_1]
      exact ih (i + 1) (by omega)
    cases hb : hkF (zh_i h 212) n key i with
    | true =>
      have hs : hkF (zh_i h 212) n key (i + 1) = true := by simp [hkF, hb]
      rw [hs, hb] at key9
      rw [if_neg (by decide), b150_33]
      exact key9
    | false =>
      rw [if_pos (show zi_bI false = 0 from rfl), b150_20 g0 g1, e5, r_of S hn (by omega)]
      simp only [Option.bind_some, Option.toList_some, List.cons_append, List.nil_append]
      rw [b150_29]
      by_cases hk : zh_i h 212 (13 * n + (5 + i)) = key
      · have hs : hkF (zh_i h 212) n key (i + 1) = true := by simp [hkF, hk]
        rw [hs, hb] at key9
        rw [if_pos hk, b150_33]
        exact key9
      · have hs : hkF (zh_i h 212) n key (i + 1) = false := by simp [hkF, hb, hk]
        rw [hs, hb] at key9
        rw [if_neg hk, b150_37]
        exact key9
theorem r_has (S : Sh h) {n m : Nat} (hn : n < 24) (hm : m ≤ 4) (em : zh_i h 212 (13 * n + 1) = nI m) {key : Int32} {u3 u4 : Value} : zv 2 150 0 [.ref 211, .int (nI n), .int key, u3, u4] [] h = some (some (.int (zi_bI (hkF (zh_i h 212) n key m))), h) := by
  rw [b150_0]
  exact r_hasL S hn hm em m 0 (by omega)
/-- whether a key is there -/
def thF (s : Nat → Int32) (key : Int32) : Nat → Bool
  | 0 => false
  | n + 1 => thF s key n || (decide (s (13 * n) = 0) && (decide (s (13 * n + 4) = 0) && hkF s n key (s (13 * n + 1)).toNatClampNeg))
theorem r_thL (S : Sh h) {N : Nat} (hN : N ≤ 24) (eN : zh_i h 212 312 = nI N) (hm : ∀ n, n < N → ∃ m, m ≤ 4 ∧ zh_i h 212 (13 * n + 1) = nI m) {key : Int32} : ∀ d i, i + d = N → zv 3 151 4 [.ref 211, .int key, .int (zi_bI (thF (zh_i h 212) key i)), .int (nI i)] [] h = some (some (.int (zi_bI (thF (zh_i h 212) key N))), h) := by
  have g0 : (211 : Nat) < zh_n h := by rw [S.n]; decide
  have g1 : (zh_k h 211).1 = 8 := by rw [S.k, kx_211]
  have r0 := r_r0 S
  intro d
  induction d with
  | zero =>
    intro i hi
    have e : i = N := by omega
    subst e
    rw [b151_4 g0 g1 (by rw [r0, zq_rf]) (by rw [r0, zq_rf, S.n]; decide) (by rw [r0, zq_rf, S.k, kx_212]; decide) (by rw [r0, zq_rf, S.k, kx_212]), r0, zq_rf, eN, if_neg (nI_nlt (Nat.le_refl _) (by omega)), b151_59, r_flag]
    simp only [Option.bind_some, Option.toList_some, List.cons_append, List.nil_append]
    rw [b151_63]
    cases thF (zh_i h 212) key i <;> rfl
  | succ d ih =>
    intro i hi
    obtain ⟨m, hm4, em⟩ := hm i (by omega)
    rw [b151_4 g0 g1 (by rw [r0, zq_rf]) (by rw [r0, zq_rf, S.n]; decide) (by rw [r0, zq_rf, S.k, kx_212]; decide) (by rw [r0, zq_rf, S.k, kx_212]), r0, zq_rf, eN, if_pos (nI_lt (by omega) (by omega)), b151_16]
    have key9 : zv 3 151 52 [.ref 211, .int key, .int (zi_bI (thF (zh_i h 212) key i)), .int (nI i)] [.int (zi_bI (thF (zh_i h 212) key (i + 1)))] h = some (some (.int (zi_bI (thF (zh_i h 212) key N))), h) := by
      rw [b151_52, nI_1]
      exact ih (i + 1) (by omega)
    cases hb : thF (zh_i h 212) key i with
    | true =>
      have hs : thF (zh_i h 212) key (i + 1) = true := by simp [thF, hb]
      rw [hs, hb] at key9
      rw [if_neg (by decide), b151_47]
      exact key9
    | false =>
      rw [if_pos (show zi_bI false = 0 from rfl), b151_20 g0 g1, r_of0 S (by omega)]
      simp only [Option.bind_some, Option.toList_some, List.cons_append, List.nil_append]
      rw [b151_26]
      by_cases h0 : zh_i h 212 (13 * i) = 0
      · rw [if_pos h0, b151_29 g0 g1, r_of4 S (by omega)]
        simp only [Option.bind_some, Option.toList_some, List.cons_append, List.nil_append]
        rw [b151_35]
        by_cases h4 : zh_i h 212 (13 * i + 4) = 0
        · rw [if_pos h4, b151_38 g0 g1, r_has S (by omega) hm4 em]
          simp only [Option.bind_some, Option.toList_some, List.cons_append, List.nil_append]
          rw [b151_44]
          have ec : (zh_i h 212 (13 * i + 1)).toNatClampNeg = m := by rw [em, nI_clamp (by omega)]
          cases hk : hkF (zh_i h 212) i key m with
          | true =>
            have hs : thF (zh_i h 212) key (i + 1) = true := by simp [thF, h0, h4, ec, hk]
            rw [hs, hb] at key9
            rw [if_neg (by decide), b151_47]
            exact key9
          | false =>
            have hs : thF (zh_i h 212) key (i + 1) = false := by simp [thF, hb, ec, hk]
            rw [hs, hb] at key9
            rw [if_pos (show zi_bI false = 0 from rfl), b151_51]
            exact key9
        · have hs : thF (zh_i h 212) key (i + 1) = false := by simp [thF, hb, h4]
          rw [hs, hb] at key9
          rw [if_neg h4, b151_51]
          exact key9
      · have hs : thF (zh_i h 212) key (i + 1) = false := by simp [thF, hb, h0]
        rw [hs, hb] at key9
        rw [if_neg h0, b151_51]
        exact key9
theorem r_th (S : Sh h) {N : Nat} (hN : N ≤ 24) (eN : zh_i h 212 312 = nI N) (hm : ∀ n, n < N → ∃ m, m ≤ 4 ∧ zh_i h 212 (13 * n + 1) = nI m) {key : Int32} {u2 u3 : Value} : zv 3 151 0 [.ref 211, .int key, u2, u3] [] h = some (some (.int (zi_bI (thF (zh_i h 212) key N))), h) := by
  rw [b151_0]
  exact r_thL S hN eN hm N 0 (by omega)
/-- the first entry whose key is no less -/
theorem r_ef (S : Sh h) {n j : Nat} (hn : n < 24) (hj : j < 8) {key : Int32} (hlt : ∀ i, i < j → zh_i h 212 (13 * n + (5 + i)) < key) (hge : ¬ zh_i h 212 (13 * n + (5 + j)) < key) {u3 : Value} : zv 2 152 0 [.ref 211, .int (nI n), .int key, u3] [] h = some (some (.int (nI j)), h) := by
  have g0 : (211 : Nat) < zh_n h := by rw [S.n]; decide
  have g1 : (zh_k h 211).1 = 8 := by rw [S.k, kx_211]
  have loop : ∀ d i, i + d = j → zv 2 152 2 [.ref 211, .int (nI n), .int key, .int (nI i)] [] h = some (some (.int (nI j)), h) := by
    intro d
    induction d with
    | zero =>
      intro i hi
      have e : i = j := by omega
      subst e
      rw [b152_2 g0 g1, show (5 : Int32) + nI i = nI (5 + i) from nI_add 5 i, r_of S hn (by omega)]
      simp only [Option.bind_some, Option.toList_some, List.cons_append, List.nil_append]
      rw [b152_10, if_neg hge, b152_20]
    | succ d ih =>
      intro i hi
      rw [b152_2 g0 g1, show (5 : Int32) + nI i = nI (5 + i) from nI_add 5 i, r_of S hn (by omega)]
      simp only [Option.bind_some, Option.toList_some, List.cons_append, List.nil_append]
      rw [b152_10, if_pos (hlt i (by omega)), b152_14, nI_1]
      exact ih (i + 1) (by omega)
  rw [b152_0]
  exact loop j 0 (by omega)
end R20
