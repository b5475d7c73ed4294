/-! THE CLASS: its text is read -/
/-- memory with the tape's and the script's cells -/
def zS (h : zi_Hp) (a p A K F : Nat → Int32) (b : Bool) : zi_Hp := (zh_n h, zh_s h, zh_k h, fun c j => if c = 197 then a j else if c = 199 then p j else if c = 200 then A j else if c = 201 then K j else if c = 202 then F j else zh_i h c j, fun c j => if c = 199 ∧ j = 8 then b else zh_b h c j, zh_l h, zh_r h, zh_L h, zh_x h)
section R33F
variable {h : zi_Hp} {a p A K F : Nat → Int32} {b : Bool}
theorem zS_n : zh_n (zS h a p A K F b) = zh_n h := Eq.trans rfl rfl
theorem zS_k (c : Nat) : zh_k (zS h a p A K F b) c = zh_k h c := Eq.trans rfl rfl
theorem zS_r (c j : Nat) : zh_r (zS h a p A K F b) c j = zh_r h c j := Eq.trans rfl rfl
theorem zS_S (S : Sh h) : Sh (zS h a p A K F b) := S
theorem zS_7 (j : Nat) : zh_i (zS h a p A K F b) 197 j = a j := Eq.trans rfl rfl
theorem zS_9 (j : Nat) : zh_i (zS h a p A K F b) 199 j = p j := Eq.trans rfl rfl
theorem zS_8 (j : Nat) : zh_i (zS h a p A K F b) 198 j = zh_i h 198 j := Eq.trans rfl rfl
theorem zS_A (j : Nat) : zh_i (zS h a p A K F b) 200 j = A j := Eq.trans rfl rfl
theorem zS_K (j : Nat) : zh_i (zS h a p A K F b) 201 j = K j := Eq.trans rfl rfl
theorem zS_F (j : Nat) : zh_i (zS h a p A K F b) 202 j = F j := Eq.trans rfl rfl
theorem zS_b : zh_b (zS h a p A K F b) 199 8 = b := Eq.trans rfl rfl
theorem zS_o {c : Nat} (j : Nat) (h1 : c ≠ 197) (h2 : c ≠ 199) (h3 : c ≠ 200) (h4 : c ≠ 201) (h5 : c ≠ 202) : zh_i (zS h a p A K F b) c j = zh_i h c j := by
  show (if c = 197 then a j else if c = 199 then p j else if c = 200 then A j else if c = 201 then K j else if c = 202 then F j else zh_i h c j) = zh_i h c j
  rw [if_neg h1, if_neg h2, if_neg h3, if_neg h4, if_neg h5]
theorem zS_bo {c : Nat} (j : Nat) (h1 : c ≠ 199) : zh_b (zS h a p A K F b) c j = zh_b h c j := by
  show (if c = 199 ∧ j = 8 then b else zh_b h c j) = zh_b h c j
  rw [if_neg (fun q => h1 q.1)]
theorem zS_id : zS h (zh_i h 197) (zh_i h 199) (zh_i h 200) (zh_i h 201) (zh_i h 202) (zh_b h 199 8) = h := by
  refine zh_ext rfl rfl (fun _ => rfl) (fun c j => ?_) (fun c j => ?_) (fun _ _ => rfl) (fun _ _ => rfl) rfl rfl
  · show (if c = 197 then zh_i h 197 j else if c = 199 then zh_i h 199 j else if c = 200 then zh_i h 200 j else if c = 201 then zh_i h 201 j else if c = 202 then zh_i h 202 j else zh_i h c j) = zh_i h c j
    split
    · rename_i e; rw [e]
    · split
      · rename_i e; rw [e]
      · split
        · rename_i e; rw [e]
        · split
          · rename_i e; rw [e]
          · split
            · rename_i e; rw [e]
            · rfl
  · show (if c = 199 ∧ j = 8 then zh_b h 199 8 else zh_b h c j) = zh_b h c j
    split
    · rename_i e; rw [e.1, e.2]
    · rfl
theorem zS_w {c k : Nat} {v : Int32} {a' p' A' K' F' : Nat → Int32} (ea : ∀ j, (if c = 197 ∧ j = k then v else a j) = a' j) (ep : ∀ j, (if c = 199 ∧ j = k then v else p j) = p' j) (eA : ∀ j, (if c = 200 ∧ j = k then v else A j) = A' j) (eK : ∀ j, (if c = 201 ∧ j = k then v else K j) = K' j) (eF : ∀ j, (if c = 202 ∧ j = k then v else F j) = F' j) (hc : c = 197 ∨ c = 199 ∨ c = 200 ∨ c = 201 ∨ c = 202) : zh_wi (zS h a p A K F b) c k v = zS h a' p' A' K' F' b := by
  refine zh_ext rfl rfl (fun _ => rfl) (fun d j => ?_) (fun _ _ => rfl) (fun _ _ => rfl) (fun _ _ => rfl) rfl rfl
  rw [hp_i_wi]
  by_cases d7 : d = 197
  · subst d7; rw [zS_7, zS_7, ← ea j]; by_cases q : c = 197 ∧ j = k
    · rw [if_pos ⟨q.1.symm, q.2⟩, if_pos q]
    · rw [if_neg (fun w => q ⟨w.1.symm, w.2⟩), if_neg q]
  · by_cases d9 : d = 199
    · subst d9; rw [zS_9, zS_9, ← ep j]; by_cases q : c = 199 ∧ j = k
      · rw [if_pos ⟨q.1.symm, q.2⟩, if_pos q]
      · rw [if_neg (fun w => q ⟨w.1.symm, w.2⟩), if_neg q]
    · by_cases dA : d = 200
      · subst dA; rw [zS_A, zS_A, ← eA j]; by_cases q : c = 200 ∧ j = k
        · rw [if_pos ⟨q.1.symm, q.2⟩, if_pos q]
        · rw [if_neg (fun w => q ⟨w.1.symm, w.2⟩), if_neg q]
      · by_cases dK : d = 201
        · subst dK; rw [zS_K, zS_K, ← eK j]; by_cases q : c = 201 ∧ j = k
          · rw [if_pos ⟨q.1.symm, q.2⟩, if_pos q]
          · rw [if_neg (fun w => q ⟨w.1.symm, w.2⟩), if_neg q]
        · by_cases dF : d = 202
          · subst dF; rw [zS_F, zS_F, ← eF j]; by_cases q : c = 202 ∧ j = k
            · rw [if_pos ⟨q.1.symm, q.2⟩, if_pos q]
            · rw [if_neg (fun w => q ⟨w.1.symm, w.2⟩), if_neg q]
          · rw [zS_o j d7 d9 dA dK dF, zS_o j d7 d9 dA dK dF, if_neg (fun q => by omega)]
theorem nif {α : Type} {c d j k : Nat} {v w : α} (hcd : c ≠ d) : (if c = d ∧ j = k then v else w) = w := if_neg (fun q => hcd q.1)
theorem yif {c j k : Nat} {v : Int32} {f : Nat → Int32} : (if c = c ∧ j = k then v else f j) = up f k v j := by
  unfold up
  by_cases q : j = k
  · rw [if_pos ⟨rfl, q⟩, if_pos q]
  · rw [if_neg (fun w => q w.2), if_neg q]
theorem zS_w7 (k : Nat) (v : Int32) : zh_wi (zS h a p A K F b) 197 k v = zS h (up a k v) p A K F b := zS_w (fun _ => yif) (fun _ => nif (by decide)) (fun _ => nif (by decide)) (fun _ => nif (by decide)) (fun _ => nif (by decide)) (by decide)
theorem zS_w9 (k : Nat) (v : Int32) : zh_wi (zS h a p A K F b) 199 k v = zS h a (up p k v) A K F b := zS_w (fun _ => nif (by decide)) (fun _ => yif) (fun _ => nif (by decide)) (fun _ => nif (by decide)) (fun _ => nif (by decide)) (by decide)
theorem zS_wA (k : Nat) (v : Int32) : zh_wi (zS h a p A K F b) 200 k v = zS h a p (up A k v) K F b := zS_w (fun _ => nif (by decide)) (fun _ => nif (by decide)) (fun _ => yif) (fun _ => nif (by decide)) (fun _ => nif (by decide)) (by decide)
theorem zS_wK (k : Nat) (v : Int32) : zh_wi (zS h a p A K F b) 201 k v = zS h a p A (up K k v) F b := zS_w (fun _ => nif (by decide)) (fun _ => nif (by decide)) (fun _ => nif (by decide)) (fun _ => yif) (fun _ => nif (by decide)) (by decide)
theorem zS_wF (k : Nat) (v : Int32) : zh_wi (zS h a p A K F b) 202 k v = zS h a p A K (up F k v) b := zS_w (fun _ => nif (by decide)) (fun _ => nif (by decide)) (fun _ => nif (by decide)) (fun _ => nif (by decide)) (fun _ => yif) (by decide)
theorem zS_wb (v : Bool) : zh_wb (zS h a p A K F b) 199 8 v = zS h a p A K F v := by
  refine zh_ext rfl rfl (fun _ => rfl) (fun _ _ => rfl) (fun c j => ?_) (fun _ _ => rfl) (fun _ _ => rfl) rfl rfl
  rw [hp_b_wb]
  show (if c = 199 ∧ j = 8 then v else if c = 199 ∧ j = 8 then b else zh_b h c j) = if c = 199 ∧ j = 8 then v else zh_b h c j
  split <;> rfl
/-- the tape while it is read: t bytes, n read -/
def TJ (a : Nat → Int32) (t n : Nat) : Prop := t ≤ 160 ∧ a 1 = nI t ∧ n ≤ t ∧ a 5 = nI n
theorem s_by (S : Sh h) (x : Int32) : ∃ v, zv 1 33 0 [.ref 197, .int x] [] (zS h a p A K F b) = some (some (.int v), zS h a p A K F b) := by
  have g0 : (197 : Nat) < zh_n (zS h a p A K F b) := by rw [zS_n, S.n]; decide
  have g1 : (zh_k (zS h a p A K F b) 197).1 = 3 := by rw [zS_k, S.k, kx_197]
  have out : ∀ {x : Int32}, zv 1 33 28 [.ref 197, .int x] [] (zS h a p A K F b) = some (some (.int (-4)), zS h a p A K F b) := fun {x} => by rw [b33_28, b33_30]
  rw [b33_0]
  by_cases h0 : x < 0
  · exact ⟨_, by rw [if_pos h0, out]⟩
  · rw [if_neg h0, b33_4 g0 g1]
    by_cases h1 : x < zh_i (zS h a p A K F b) 197 1
    · rw [if_pos h1, b33_12]
      by_cases h2 : x < 160
      · obtain ⟨n, hn, rfl⟩ := nI_ex (b := 160) (by decide) h0 h2
        exact ⟨_, by rw [if_pos h2, b33_19 g0 g1 (by rw [zS_r, S.r, rx_197_0, zq_rf]) (by rw [zS_r, S.r, rx_197_0, zq_rf, zS_n, S.n]; decide) (by rw [zS_r, S.r, rx_197_0, zq_rf, zS_k, S.k, kx_198]; exact zj_n hn (by decide)) (by rw [zS_r, S.r, rx_197_0, zq_rf, zS_k, S.k, kx_198]), b33_30]⟩
      · exact ⟨_, by rw [if_neg h2, out]⟩
    · exact ⟨_, by rw [if_neg h1, out]⟩
theorem s_le {x : Int32} : ∃ c : Bool, zv 1 34 0 [.int x] [] h = some (some (.int (zi_bI c)), h) := by
  rw [b34_0]
  by_cases h0 : x < 97
  · exact ⟨false, by rw [if_pos h0, b34_16, b34_17 (Or.inl rfl)]; rfl⟩
  · rw [if_neg h0, b34_6]
    by_cases h1 : 122 < x
    · exact ⟨false, by rw [if_pos h1, b34_16, b34_17 (Or.inl rfl)]; rfl⟩
    · exact ⟨true, by rw [if_neg h1, b34_12, b34_17 (Or.inr rfl)]; rfl⟩
theorem s_fi {x : Int32} : zv 1 35 0 [.int x] [] h = some (some (.int (zi_bI (decide (¬ x < 48 ∧ ¬ 57 < x)))), h) := by
  rw [b35_0]
  by_cases h0 : x < 48
  · rw [if_pos h0, b35_16, b35_17 (Or.inl rfl), decide_eq_false (fun q => q.1 h0)]; rfl
  · rw [if_neg h0, b35_6]
    by_cases h1 : 57 < x
    · rw [if_pos h1, b35_16, b35_17 (Or.inl rfl), decide_eq_false (fun q => q.2 h1)]; rfl
    · rw [if_neg h1, b35_12, b35_17 (Or.inr rfl), decide_eq_true ⟨h0, h1⟩]; rfl
end R33F
