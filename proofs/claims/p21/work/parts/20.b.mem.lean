/-! THE REFERENCE'S MEMORY in its steps: the row 212, and what it scratches (rows 215, 216, its field 5, the row 217) -/
abbrev zQs : Type := (Nat → Int32) × (Nat → Int32) × Int32 × (Nat → Bool)
def zQ (h : zi_Hp) (q : zQs) (s : Nat → Int32) : zi_Hp := (zh_n h, zh_s h, zh_k h, fun b j => if b = 212 then s j else if b = 215 then q.1 j else if b = 216 then q.2.1 j else if b = 211 ∧ j = 5 then q.2.2.1 else zh_i h b j, fun b j => if b = 217 then q.2.2.2 j else zh_b h b j, zh_l h, zh_r h, zh_L h, zh_x h)
/-- a number becomes another -/
def up (s : Nat → Int32) (k : Nat) (v : Int32) : Nat → Int32 := fun j => if j = k then v else s j
theorem up_s (s : Nat → Int32) (k : Nat) (v : Int32) : up s k v k = v := if_pos rfl
theorem up_n (s : Nat → Int32) {k j : Nat} (v : Int32) (hj : j ≠ k) : up s k v j = s j := if_neg hj
section RQ
variable {h : zi_Hp} {q : zQs} {s : Nat → Int32}
theorem zQ_n : zh_n (zQ h q s) = zh_n h := Eq.trans rfl rfl
theorem zQ_k (b : Nat) : zh_k (zQ h q s) b = zh_k h b := Eq.trans rfl rfl
theorem zQ_r (b j : Nat) : zh_r (zQ h q s) b j = zh_r h b j := Eq.trans rfl rfl
theorem zQ_Sh : Sh (zQ h q s) = Sh h := Eq.trans rfl rfl
theorem zQ_S (S : Sh h) : Sh (zQ h q s) := S
theorem zQ_212 (j : Nat) : zh_i (zQ h q s) 212 j = s j := Eq.trans rfl rfl
theorem zQ_row : zh_i (zQ h q s) 212 = s := Eq.trans rfl rfl
theorem zQ_215 (j : Nat) : zh_i (zQ h q s) 215 j = q.1 j := Eq.trans rfl rfl
theorem zQ_216 (j : Nat) : zh_i (zQ h q s) 216 j = q.2.1 j := Eq.trans rfl rfl
theorem zQ_2115 : zh_i (zQ h q s) 211 5 = q.2.2.1 := Eq.trans rfl rfl
theorem zQ_217 (j : Nat) : zh_b (zQ h q s) 217 j = q.2.2.2 j := Eq.trans rfl rfl
theorem zQ_211 {j : Nat} (hj : j ≠ 5) : zh_i (zQ h q s) 211 j = zh_i h 211 j := by
  show (if (211 : Nat) = 212 then s j else if (211 : Nat) = 215 then q.1 j else if (211 : Nat) = 216 then q.2.1 j else if (211 : Nat) = 211 ∧ j = 5 then q.2.2.1 else zh_i h 211 j) = _
  rw [if_neg (by decide), if_neg (by decide), if_neg (by decide), if_neg (fun w => hj w.2)]
theorem zQ_o {a : Nat} (j : Nat) (h1 : a ≠ 211) (h2 : a ≠ 212) (h3 : a ≠ 215) (h4 : a ≠ 216) : zh_i (zQ h q s) a j = zh_i h a j := by
  show (if a = 212 then s j else if a = 215 then q.1 j else if a = 216 then q.2.1 j else if a = 211 ∧ j = 5 then q.2.2.1 else zh_i h a j) = _
  rw [if_neg h2, if_neg h3, if_neg h4, if_neg (fun w => h1 w.1)]
theorem zQ_bo {a : Nat} (j : Nat) (h1 : a ≠ 217) : zh_b (zQ h q s) a j = zh_b h a j := by
  show (if a = 217 then q.2.2.2 j else zh_b h a j) = _
  rw [if_neg h1]
theorem zQ_l (b j : Nat) : zh_l (zQ h q s) b j = zh_l h b j := Eq.trans rfl rfl
theorem zQ_id : zQ h (zh_i h 215, zh_i h 216, zh_i h 211 5, zh_b h 217) (zh_i h 212) = h := by
  refine zh_ext rfl rfl (fun _ => rfl) (fun b j => ?_) (fun b j => ?_) (fun _ _ => rfl) (fun _ _ => rfl) rfl rfl
  · show (if b = 212 then zh_i h 212 j else if b = 215 then zh_i h 215 j else if b = 216 then zh_i h 216 j else if b = 211 ∧ j = 5 then zh_i h 211 5 else zh_i h b j) = zh_i h b j
    by_cases h1 : b = 212
    · rw [if_pos h1, h1]
    · rw [if_neg h1]
      by_cases h2 : b = 215
      · rw [if_pos h2, h2]
      · rw [if_neg h2]
        by_cases h3 : b = 216
        · rw [if_pos h3, h3]
        · rw [if_neg h3]
          by_cases h4 : b = 211 ∧ j = 5
          · rw [if_pos h4, h4.1, h4.2]
          · rw [if_neg h4]
  · show (if b = 217 then zh_b h 217 j else zh_b h b j) = zh_b h b j
    by_cases h1 : b = 217
    · rw [if_pos h1, h1]
    · rw [if_neg h1]
theorem zQ_w (k : Nat) (v : Int32) : zh_wi (zQ h q s) 212 k v = zQ h q (up s k v) := by
  refine zh_ext rfl rfl (fun _ => rfl) (fun b j => ?_) (fun _ _ => rfl) (fun _ _ => rfl) (fun _ _ => rfl) rfl rfl
  rw [hp_i_wi]
  by_cases h1 : b = 212
  · subst h1
    rw [zQ_212, zQ_212, up]
    by_cases h2 : j = k
    · rw [if_pos ⟨rfl, h2⟩, if_pos h2]
    · rw [if_neg (fun w => h2 w.2), if_neg h2]
  · rw [if_neg (fun w => h1 w.1)]
    show (if b = 212 then s j else if b = 215 then q.1 j else if b = 216 then q.2.1 j else if b = 211 ∧ j = 5 then q.2.2.1 else zh_i h b j) = (if b = 212 then up s k v j else if b = 215 then q.1 j else if b = 216 then q.2.1 j else if b = 211 ∧ j = 5 then q.2.2.1 else zh_i h b j)
    rw [if_neg h1, if_neg h1]
theorem zQ_wk (k : Nat) (v : Int32) : zh_wi (zQ h q s) 215 k v = zQ h (up q.1 k v, q.2) s := by
  refine zh_ext rfl rfl (fun _ => rfl) (fun b j => ?_) (fun _ _ => rfl) (fun _ _ => rfl) (fun _ _ => rfl) rfl rfl
  rw [hp_i_wi]
  by_cases h1 : b = 215
  · subst h1
    rw [zQ_215, zQ_215]
    show _ = up q.1 k v j
    rw [up]
    by_cases h2 : j = k
    · rw [if_pos ⟨rfl, h2⟩, if_pos h2]
    · rw [if_neg (fun w => h2 w.2), if_neg h2]
  · rw [if_neg (fun w => h1 w.1)]
    show (if b = 212 then s j else if b = 215 then q.1 j else if b = 216 then q.2.1 j else if b = 211 ∧ j = 5 then q.2.2.1 else zh_i h b j) = (if b = 212 then s j else if b = 215 then up q.1 k v j else if b = 216 then q.2.1 j else if b = 211 ∧ j = 5 then q.2.2.1 else zh_i h b j)
    rw [if_neg h1, if_neg h1]
theorem zQ_wc (k : Nat) (v : Int32) : zh_wi (zQ h q s) 216 k v = zQ h (q.1, up q.2.1 k v, q.2.2) s := by
  refine zh_ext rfl rfl (fun _ => rfl) (fun b j => ?_) (fun _ _ => rfl) (fun _ _ => rfl) (fun _ _ => rfl) rfl rfl
  rw [hp_i_wi]
  by_cases h1 : b = 216
  · subst h1
    rw [zQ_216, zQ_216]
    show _ = up q.2.1 k v j
    rw [up]
    by_cases h2 : j = k
    · rw [if_pos ⟨rfl, h2⟩, if_pos h2]
    · rw [if_neg (fun w => h2 w.2), if_neg h2]
  · rw [if_neg (fun w => h1 w.1)]
    show (if b = 212 then s j else if b = 215 then q.1 j else if b = 216 then q.2.1 j else if b = 211 ∧ j = 5 then q.2.2.1 else zh_i h b j) = (if b = 212 then s j else if b = 215 then q.1 j else if b = 216 then up q.2.1 k v j else if b = 211 ∧ j = 5 then q.2.2.1 else zh_i h b j)
    rw [if_neg h1, if_neg h1]
theorem zQ_wm (v : Int32) : zh_wi (zQ h q s) 211 5 v = zQ h (q.1, q.2.1, v, q.2.2.2) s := by
  refine zh_ext rfl rfl (fun _ => rfl) (fun b j => ?_) (fun _ _ => rfl) (fun _ _ => rfl) (fun _ _ => rfl) rfl rfl
  rw [hp_i_wi]
  show (if b = 211 ∧ j = 5 then v else if b = 212 then s j else if b = 215 then q.1 j else if b = 216 then q.2.1 j else if b = 211 ∧ j = 5 then q.2.2.1 else zh_i h b j) = (if b = 212 then s j else if b = 215 then q.1 j else if b = 216 then q.2.1 j else if b = 211 ∧ j = 5 then v else zh_i h b j)
  by_cases h1 : b = 211 ∧ j = 5
  · rw [if_pos h1, if_neg (by omega), if_neg (by omega), if_neg (by omega), if_pos h1]
  · rw [if_neg h1, if_neg h1, if_neg h1]
theorem zQ_wb (k : Nat) (v : Bool) : zh_wb (zQ h q s) 217 k v = zQ h (q.1, q.2.1, q.2.2.1, fun j => if j = k then v else q.2.2.2 j) s := by
  refine zh_ext rfl rfl (fun _ => rfl) (fun _ _ => rfl) (fun b j => ?_) (fun _ _ => rfl) (fun _ _ => rfl) rfl rfl
  rw [hp_b_wb]
  show (if b = 217 ∧ j = k then v else if b = 217 then q.2.2.2 j else zh_b h b j) = (if b = 217 then (if j = k then v else q.2.2.2 j) else zh_b h b j)
  by_cases h1 : b = 217
  · rw [if_pos h1, if_pos h1]
    by_cases h2 : j = k
    · rw [if_pos ⟨h1, h2⟩, if_pos h2]
    · rw [if_neg (fun w => h2 w.2), if_neg h2]
  · rw [if_neg h1, if_neg h1, if_neg (fun w => h1 w.1)]
theorem q_of (S : Sh h) {n w : Nat} (hn : n < 24) (hw : w < 13) : zv 1 144 0 [.ref 211, .int (nI n), .int (nI w)] [] (zQ h q s) = some (some (.int (s (13 * n + w))), zQ h q s) := r_of (zQ_S S) hn hw
theorem q_nb (S : Sh h) {n w : Nat} {v : Int32} (hn : n < 24) (hw : w < 13) : zv 1 145 0 [.ref 211, .int (nI n), .int (nI w), .int v] [] (zQ h q s) = some (none, zQ h q (up s (13 * n + w) v)) := by
  rw [r_nb (zQ_S S) hn hw, zQ_w]
theorem q_oc (S : Sh h) {c w : Nat} (hc : c < 3) (hw : w < 24) : zv 1 146 0 [.ref 211, .int (nI c), .int (nI w)] [] (zQ h q s) = some (some (.int (s (315 + 24 * c + w))), zQ h q s) := r_oc (zQ_S S) hc hw
theorem q_cb (S : Sh h) {c w : Nat} {v : Int32} (hc : c < 3) (hw : w < 24) : zv 1 147 0 [.ref 211, .int (nI c), .int (nI w), .int v] [] (zQ h q s) = some (none, zQ h q (up s (315 + 24 * c + w) v)) := by
  rw [r_cb (zQ_S S) hc hw, zQ_w]
theorem q_of0 (S : Sh h) {n : Nat} (hn : n < 24) : zv 1 144 0 [.ref 211, .int (nI n), .int 0] [] (zQ h q s) = some (some (.int (s (13 * n))), zQ h q s) := r_of0 (zQ_S S) hn
theorem q_nb0 (S : Sh h) {n : Nat} {v : Int32} (hn : n < 24) : zv 1 145 0 [.ref 211, .int (nI n), .int 0, .int v] [] (zQ h q s) = some (none, zQ h q (up s (13 * n) v)) := by
  rw [r_nb0 (zQ_S S) hn, zQ_w]
theorem q_of1 (S : Sh h) {n : Nat} (hn : n < 24) : zv 1 144 0 [.ref 211, .int (nI n), .int 1] [] (zQ h q s) = some (some (.int (s (13 * n + 1))), zQ h q s) := r_of1 (zQ_S S) hn
theorem q_nb1 (S : Sh h) {n : Nat} {v : Int32} (hn : n < 24) : zv 1 145 0 [.ref 211, .int (nI n), .int 1, .int v] [] (zQ h q s) = some (none, zQ h q (up s (13 * n + 1) v)) := by
  rw [r_nb1 (zQ_S S) hn, zQ_w]
theorem q_of2 (S : Sh h) {n : Nat} (hn : n < 24) : zv 1 144 0 [.ref 211, .int (nI n), .int 2] [] (zQ h q s) = some (some (.int (s (13 * n + 2))), zQ h q s) := r_of2 (zQ_S S) hn
theorem q_nb2 (S : Sh h) {n : Nat} {v : Int32} (hn : n < 24) : zv 1 145 0 [.ref 211, .int (nI n), .int 2, .int v] [] (zQ h q s) = some (none, zQ h q (up s (13 * n + 2) v)) := by
  rw [r_nb2 (zQ_S S) hn, zQ_w]
theorem q_of3 (S : Sh h) {n : Nat} (hn : n < 24) : zv 1 144 0 [.ref 211, .int (nI n), .int 3] [] (zQ h q s) = some (some (.int (s (13 * n + 3))), zQ h q s) := r_of3 (zQ_S S) hn
theorem q_nb3 (S : Sh h) {n : Nat} {v : Int32} (hn : n < 24) : zv 1 145 0 [.ref 211, .int (nI n), .int 3, .int v] [] (zQ h q s) = some (none, zQ h q (up s (13 * n + 3) v)) := by
  rw [r_nb3 (zQ_S S) hn, zQ_w]
theorem q_of4 (S : Sh h) {n : Nat} (hn : n < 24) : zv 1 144 0 [.ref 211, .int (nI n), .int 4] [] (zQ h q s) = some (some (.int (s (13 * n + 4))), zQ h q s) := r_of4 (zQ_S S) hn
theorem q_nb4 (S : Sh h) {n : Nat} {v : Int32} (hn : n < 24) : zv 1 145 0 [.ref 211, .int (nI n), .int 4, .int v] [] (zQ h q s) = some (none, zQ h q (up s (13 * n + 4) v)) := by
  rw [r_nb4 (zQ_S S) hn, zQ_w]
theorem q_oc0 (S : Sh h) {c : Nat} (hc : c < 3) : zv 1 146 0 [.ref 211, .int (nI c), .int 0] [] (zQ h q s) = some (some (.int (s (315 + 24 * c))), zQ h q s) := r_oc0 (zQ_S S) hc
theorem q_cb0 (S : Sh h) {c : Nat} {v : Int32} (hc : c < 3) : zv 1 147 0 [.ref 211, .int (nI c), .int 0, .int v] [] (zQ h q s) = some (none, zQ h q (up s (315 + 24 * c) v)) := by
  rw [r_cb0 (zQ_S S) hc, zQ_w]
theorem q_oc1 (S : Sh h) {c : Nat} (hc : c < 3) : zv 1 146 0 [.ref 211, .int (nI c), .int 1] [] (zQ h q s) = some (some (.int (s (315 + 24 * c + 1))), zQ h q s) := r_oc1 (zQ_S S) hc
theorem q_cb1 (S : Sh h) {c : Nat} {v : Int32} (hc : c < 3) : zv 1 147 0 [.ref 211, .int (nI c), .int 1, .int v] [] (zQ h q s) = some (none, zQ h q (up s (315 + 24 * c + 1) v)) := by
  rw [r_cb1 (zQ_S S) hc, zQ_w]
theorem q_oc2 (S : Sh h) {c : Nat} (hc : c < 3) : zv 1 146 0 [.ref 211, .int (nI c), .int 2] [] (zQ h q s) = some (some (.int (s (315 + 24 * c + 2))), zQ h q s) := r_oc2 (zQ_S S) hc
theorem q_cb2 (S : Sh h) {c : Nat} {v : Int32} (hc : c < 3) : zv 1 147 0 [.ref 211, .int (nI c), .int 2, .int v] [] (zQ h q s) = some (none, zQ h q (up s (315 + 24 * c + 2) v)) := by
  rw [r_cb2 (zQ_S S) hc, zQ_w]
theorem q_oc3 (S : Sh h) {c : Nat} (hc : c < 3) : zv 1 146 0 [.ref 211, .int (nI c), .int 3] [] (zQ h q s) = some (some (.int (s (315 + 24 * c + 3))), zQ h q s) := r_oc3 (zQ_S S) hc
theorem q_cb3 (S : Sh h) {c : Nat} {v : Int32} (hc : c < 3) : zv 1 147 0 [.ref 211, .int (nI c), .int 3, .int v] [] (zQ h q s) = some (none, zQ h q (up s (315 + 24 * c + 3) v)) := by
  rw [r_cb3 (zQ_S S) hc, zQ_w]
theorem q_oc4 (S : Sh h) {c : Nat} (hc : c < 3) : zv 1 146 0 [.ref 211, .int (nI c), .int 4] [] (zQ h q s) = some (some (.int (s (315 + 24 * c + 4))), zQ h q s) := r_oc4 (zQ_S S) hc
theorem q_cb4 (S : Sh h) {c : Nat} {v : Int32} (hc : c < 3) : zv 1 147 0 [.ref 211, .int (nI c), .int 4, .int v] [] (zQ h q s) = some (none, zQ h q (up s (315 + 24 * c + 4) v)) := by
  rw [r_cb4 (zQ_S S) hc, zQ_w]
theorem q_oc5 (S : Sh h) {c : Nat} (hc : c < 3) : zv 1 146 0 [.ref 211, .int (nI c), .int 5] [] (zQ h q s) = some (some (.int (s (315 + 24 * c + 5))), zQ h q s) := r_oc5 (zQ_S S) hc
theorem q_cb5 (S : Sh h) {c : Nat} {v : Int32} (hc : c < 3) : zv 1 147 0 [.ref 211, .int (nI c), .int 5, .int v] [] (zQ h q s) = some (none, zQ h q (up s (315 + 24 * c + 5) v)) := by
  rw [r_cb5 (zQ_S S) hc, zQ_w]
theorem q_oc6 (S : Sh h) {c : Nat} (hc : c < 3) : zv 1 146 0 [.ref 211, .int (nI c), .int 6] [] (zQ h q s) = some (some (.int (s (315 + 24 * c + 6))), zQ h q s) := r_oc6 (zQ_S S) hc
theorem q_cb6 (S : Sh h) {c : Nat} {v : Int32} (hc : c < 3) : zv 1 147 0 [.ref 211, .int (nI c), .int 6, .int v] [] (zQ h q s) = some (none, zQ h q (up s (315 + 24 * c + 6) v)) := by
  rw [r_cb6 (zQ_S S) hc, zQ_w]
theorem q_oc7 (S : Sh h) {c : Nat} (hc : c < 3) : zv 1 146 0 [.ref 211, .int (nI c), .int 7] [] (zQ h q s) = some (some (.int (s (315 + 24 * c + 7))), zQ h q s) := r_oc7 (zQ_S S) hc
theorem q_cb7 (S : Sh h) {c : Nat} {v : Int32} (hc : c < 3) : zv 1 147 0 [.ref 211, .int (nI c), .int 7, .int v] [] (zQ h q s) = some (none, zQ h q (up s (315 + 24 * c + 7) v)) := by
  rw [r_cb7 (zQ_S S) hc, zQ_w]
theorem q_oc8 (S : Sh h) {c : Nat} (hc : c < 3) : zv 1 146 0 [.ref 211, .int (nI c), .int 8] [] (zQ h q s) = some (some (.int (s (315 + 24 * c + 8))), zQ h q s) := r_oc8 (zQ_S S) hc
theorem q_cb8 (S : Sh h) {c : Nat} {v : Int32} (hc : c < 3) : zv 1 147 0 [.ref 211, .int (nI c), .int 8, .int v] [] (zQ h q s) = some (none, zQ h q (up s (315 + 24 * c + 8) v)) := by
  rw [r_cb8 (zQ_S S) hc, zQ_w]
theorem q_oc9 (S : Sh h) {c : Nat} (hc : c < 3) : zv 1 146 0 [.ref 211, .int (nI c), .int 9] [] (zQ h q s) = some (some (.int (s (315 + 24 * c + 9))), zQ h q s) := r_oc9 (zQ_S S) hc
theorem q_cb9 (S : Sh h) {c : Nat} {v : Int32} (hc : c < 3) : zv 1 147 0 [.ref 211, .int (nI c), .int 9, .int v] [] (zQ h q s) = some (none, zQ h q (up s (315 + 24 * c + 9) v)) := by
  rw [r_cb9 (zQ_S S) hc, zQ_w]
theorem q_oc10 (S : Sh h) {c : Nat} (hc : c < 3) : zv 1 146 0 [.ref 211, .int (nI c), .int 10] [] (zQ h q s) = some (some (.int (s (315 + 24 * c + 10))), zQ h q s) := r_oc10 (zQ_S S) hc
theorem q_cb10 (S : Sh h) {c : Nat} {v : Int32} (hc : c < 3) : zv 1 147 0 [.ref 211, .int (nI c), .int 10, .int v] [] (zQ h q s) = some (none, zQ h q (up s (315 + 24 * c + 10) v)) := by
  rw [r_cb10 (zQ_S S) hc, zQ_w]
theorem q_oc11 (S : Sh h) {c : Nat} (hc : c < 3) : zv 1 146 0 [.ref 211, .int (nI c), .int 11] [] (zQ h q s) = some (some (.int (s (315 + 24 * c + 11))), zQ h q s) := r_oc11 (zQ_S S) hc
theorem q_cb11 (S : Sh h) {c : Nat} {v : Int32} (hc : c < 3) : zv 1 147 0 [.ref 211, .int (nI c), .int 11, .int v] [] (zQ h q s) = some (none, zQ h q (up s (315 + 24 * c + 11) v)) := by
  rw [r_cb11 (zQ_S S) hc, zQ_w]
theorem q_lk (S : Sh h) {x : Int32} {u2 u3 u4 : Value} : zv 2 149 0 [.ref 211, .int x, u2, u3, u4] [] (zQ h q s) = some (some (.int (lkB s x)), zQ h q s) := r_lk (zQ_S S)
theorem q_has (S : Sh h) {n m : Nat} (hn : n < 24) (hm : m ≤ 4) (em : s (13 * n + 1) = nI m) {key : Int32} {u3 u4 : Value} : zv 2 150 0 [.ref 211, .int (nI n), .int key, u3, u4] [] (zQ h q s) = some (some (.int (zi_bI (hkF s n key m))), zQ h q s) := r_has (zQ_S S) hn hm em
theorem q_th (S : Sh h) {N : Nat} (hN : N ≤ 24) (eN : s 312 = nI N) (hm : ∀ n, n < N → ∃ m, m ≤ 4 ∧ s (13 * n + 1) = nI m) {key : Int32} {u2 u3 : Value} : zv 3 151 0 [.ref 211, .int key, u2, u3] [] (zQ h q s) = some (some (.int (zi_bI (thF s key N))), zQ h q s) := r_th (zQ_S S) hN eN hm
theorem q_ef (S : Sh h) {n j : Nat} (hn : n < 24) (hj : j < 8) {key : Int32} (hlt : ∀ i, i < j → s (13 * n + (5 + i)) < key) (hge : ¬ s (13 * n + (5 + j)) < key) {u3 : Value} : zv 2 152 0 [.ref 211, .int (nI n), .int key, u3] [] (zQ h q s) = some (some (.int (nI j)), zQ h q s) := r_ef (zQ_S S) hn hj hlt hge
theorem q_g0 (S : Sh h) : (211 : Nat) < zh_n (zQ h q s) := by rw [zQ_n, S.n]; decide
theorem q_g1 (S : Sh h) : (zh_k (zQ h q s) 211).1 = 8 := by rw [zQ_k, S.k, kx_211]
theorem q_r0 (S : Sh h) : zh_r (zQ h q s) 211 0 = .ref 212 := by rw [zQ_r, S.r, rx_211_0]
theorem q_r3 (S : Sh h) : zh_r (zQ h q s) 211 3 = .ref 215 := by rw [zQ_r, S.r, rx_211_3]
theorem q_r4 (S : Sh h) : zh_r (zQ h q s) 211 4 = .ref 216 := by rw [zQ_r, S.r, rx_211_4]
/-- bigAdds -/
theorem q_ba (S : Sh h) {m : Nat} (hm : m < 5) (em : q.2.2.1 = nI m) {key child : Int32} : zv 1 153 0 [.ref 211, .int key, .int child] [] (zQ h q s) = some (none, zQ h (up q.1 m key, up q.2.1 m child, nI (m + 1), q.2.2.2) s) := by
  have e5 : zh_i (zQ h q s) 211 5 = nI m := em
  rw [b153_0 (q_g0 S) (q_g1 S) (by rw [q_r3 S, zq_rf]) (by rw [q_r3 S, zq_rf, zQ_n, S.n]; decide) (by rw [q_r3 S, zq_rf, zQ_k, S.k, kx_215, e5]; exact zj_n hm (by decide)) (by rw [q_r3 S, zq_rf, zQ_k, S.k, kx_215]) (by rw [q_r4 S, zq_rf]), q_r3 S, q_r4 S, zq_rf, zq_rf, e5, nI_clamp (by omega), zQ_wk]
  have e6 : zh_i (zQ h (up q.1 m key, q.2) s) 211 5 = nI m := em
  rw [b153_15 (q_g0 S) (q_g1 S) (by rw [zQ_n, S.n]; decide) (by rw [zQ_k, S.k, kx_216, e6]; exact zj_n hm (by decide)) (by rw [zQ_k, S.k, kx_216]), e6, nI_clamp (by omega), zQ_wc]
  have e7 : zh_i (zQ h ((up q.1 m key, q.2).1, up (up q.1 m key, q.2).2.1 m child, (up q.1 m key, q.2).2.2) s) 211 5 = nI m := em
  rw [b153_22 (q_g0 S) (q_g1 S) (q_g0 S) (q_g1 S), e7, nI_1, zQ_wm]
/-- a node has what big has, from one to another -/
def nP (s : Nat → Int32) (n : Nat) (g gc : Nat → Int32) (k : Nat) : Nat → Int32 := fun j => if 13 * n + 5 ≤ j ∧ j < 13 * n + 5 + k then g (j - (13 * n + 5)) else if 13 * n + 9 ≤ j ∧ j < 13 * n + 9 + k then gc (j - (13 * n + 9)) else s j
theorem nP_0 (s : Nat → Int32) (n : Nat) (g gc : Nat → Int32) : nP s n g gc 0 = s := by
  funext j
  rw [nP, if_neg (fun w => by omega), if_neg (fun w => by omega)]
theorem nP_s (s : Nat → Int32) (n : Nat) (g gc : Nat → Int32) {k : Nat} (hk : k < 4) : up (up (nP s n g gc k) (13 * n + (5 + k)) (g k)) (13 * n + (9 + k)) (gc k) = nP s n g gc (k + 1) := by
  funext j
  by_cases h1 : j = 13 * n + (9 + k)
  · subst h1
    rw [up_s, nP, if_neg (by omega), if_pos (by omega), show 13 * n + (9 + k) - (13 * n + 9) = k by omega]
  · rw [up_n _ _ h1]
    by_cases h2 : j = 13 * n + (5 + k)
    · subst h2
      rw [up_s, nP, if_pos (by omega), show 13 * n + (5 + k) - (13 * n + 5) = k by omega]
    · rw [up_n _ _ h2, nP, nP]
      by_cases h3 : 13 * n + 5 ≤ j ∧ j < 13 * n + 5 + k
      · rw [if_pos h3, if_pos (by omega)]
      · have h3' : ¬ (13 * n + 5 ≤ j ∧ j < 13 * n + 5 + (k + 1)) := by omega
        rw [if_neg h3, if_neg h3']
        by_cases h4 : 13 * n + 9 ≤ j ∧ j < 13 * n + 9 + k
        · have h4' : 13 * n + 9 ≤ j ∧ j < 13 * n + 9 + (k + 1) := by omega
          rw [if_pos h4, if_pos h4']
        · have h4' : ¬ (13 * n + 9 ≤ j ∧ j < 13 * n + 9 + (k + 1)) := by omega
          rw [if_neg h4, if_neg h4']
def nH (s : Nat → Int32) (n : Nat) (g gc : Nat → Int32) (k : Nat) : Nat → Int32 := up (nP s n g gc k) (13 * n + 1) (nI k)
theorem nI_sub {a b : Nat} (hab : b ≤ a) : nI a - nI b = nI (a - b) := by
  have e : nI a = nI (a - b) + nI b := by rw [nI_add]; congr 1; omega
  rw [e]
  exact Int32.add_sub_cancel _ _
theorem q_nh (S : Sh h) {n fr to : Nat} (hn : n < 24) (hf : fr ≤ to) (ht : to ≤ 5) (hd : to - fr ≤ 4) {u4 : Value} : zv 2 154 0 [.ref 211, .int (nI n), .int (nI fr), .int (nI to), u4] [] (zQ h q s) = some (none, zQ h q (nH s n (fun i => q.1 (fr + i)) (fun i => q.2.1 (fr + i)) (to - fr))) := by
  have loop : ∀ d i, fr + i + d = to → zv 2 154 3 [.ref 211, .int (nI n), .int (nI fr), .int (nI to), .int (nI (fr + i))] [] (zQ h q (nP s n (fun i => q.1 (fr + i)) (fun i => q.2.1 (fr + i)) i)) = some (none, zQ h q (nH s n (fun i => q.1 (fr + i)) (fun i => q.2.1 (fr + i)) (to - fr))) := by
    intro d
    induction d with
    | zero =>
      intro i hi
      have e : i = to - fr := by omega
      subst e
      rw [b154_3, if_neg (nI_nlt (by omega) (by omega)), b154_52 (q_g0 S) (q_g1 S), nI_sub hf, q_nb1 S hn]
      simp only [Option.bind_some, Option.toList_none, List.nil_append]
      rw [b154_61, nH]
    | succ d ih =>
      intro i hi
      have hin5 : ∀ {q2 : zQs} {s2 : Nat → Int32}, ¬ (nI (fr + i) < 0 ∨ (zh_k (zQ h q2 s2) 215).2 ≤ (nI (fr + i)).toNatClampNeg) := by
        intro q2 s2
        rw [zQ_k, S.k, kx_215]
        exact zj_n (by omega) (by decide)
      have hin6 : ∀ {q2 : zQs} {s2 : Nat → Int32}, ¬ (nI (fr + i) < 0 ∨ (zh_k (zQ h q2 s2) 216).2 ≤ (nI (fr + i)).toNatClampNeg) := by
        intro q2 s2
        rw [zQ_k, S.k, kx_216]
        exact zj_n (by omega) (by decide)
      have e5 : (5 : Int32) + nI (fr + i) - nI fr = nI (5 + i) := by
        rw [show (5 : Int32) + nI (fr + i) = nI (5 + (fr + i)) from nI_add 5 _, nI_sub (by omega)]
        congr 1
        omega
      have e9 : (9 : Int32) + nI (fr + i) - nI fr = nI (9 + i) := by
        rw [show (9 : Int32) + nI (fr + i) = nI (9 + (fr + i)) from nI_add 9 _, nI_sub (by omega)]
        congr 1
        omega
      rw [b154_3, if_pos (nI_lt (by omega) (by omega)), b154_9 (q_g0 S) (q_g1 S) (by rw [q_r3 S, zq_rf]) (by rw [q_r3 S, zq_rf, zQ_n, S.n]; decide) (by rw [q_r3 S, zq_rf]; exact hin5) (by rw [q_r3 S, zq_rf, zQ_k, S.k, kx_215]), q_r3 S, zq_rf, e5, q_nb S hn (by omega), nI_clamp (by omega), zQ_215]
      simp only [Option.bind_some, Option.toList_none, List.nil_append]
      rw [b154_27 (q_g0 S) (q_g1 S) (by rw [q_r4 S, zq_rf]) (by rw [q_r4 S, zq_rf, zQ_n, S.n]; decide) (by rw [q_r4 S, zq_rf]; exact hin6) (by rw [q_r4 S, zq_rf, zQ_k, S.k, kx_216]), q_r4 S, zq_rf, e9, q_nb S hn (by omega), nI_clamp (by omega), zQ_216]
      simp only [Option.bind_some, Option.toList_none, List.nil_append]
      have eP := nP_s s n (fun i => q.1 (fr + i)) (fun i => q.2.1 (fr + i)) (k := i) (by omega)
      rw [eP, b154_46, nI_1, show fr + i + 1 = fr + (i + 1) by omega]
      exact ih (i + 1) (by omega)
  have := loop (to - fr) 0 (by omega)
  rw [nP_0] at this
  rw [b154_0]
  exact this
end RQ
