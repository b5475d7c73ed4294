/-! the memory as a row of cells; the constructors at their addresses -/
abbrev zCe : Type := (Nat × Nat) × (Nat → Int32) × (Nat → Bool) × (Nat → Int64) × (Nat → Value)
def zG (n s : Nat) (X : Nat → zCe) (L : Nat) (xs : Nat → Int32) : zi_Hp := (n, s, fun b => (X b).1, fun b => (X b).2.1, fun b => (X b).2.2.1, fun b => (X b).2.2.2.1, fun b => (X b).2.2.2.2, L, xs)
def zU (X : Nat → zCe) (a : Nat) (c : zCe) : Nat → zCe := fun b => if b = a then c else X b
def zUW (X : Nat → zCe) (w : Nat) : Nat → zCe := fun b => if w ≤ b ∧ b < w + 16 then cW w (b - w) else X b
def zUM (X : Nat → zCe) (n : Nat) : Nat → zCe := fun b => if b = n then ((105, 4), fun _ => 0, (X b).2.2.1, (X b).2.2.2.1, fun j => .ref (n + 1 + j)) else if n < b ∧ b ≤ n + 4 then ((100, 40), fun _ => 0, (X b).2.2.1, (X b).2.2.2.1, (X b).2.2.2.2) else X b
def zcr (c : zCe) (j : Nat) (v : Value) : zCe := (c.1, c.2.1, c.2.2.1, c.2.2.2.1, fun i => if i = j then v else c.2.2.2.2 i)
def zci (c : zCe) (j : Nat) (v : Int32) : zCe := (c.1, fun i => if i = j then v else c.2.1 i, c.2.2.1, c.2.2.2.1, c.2.2.2.2)
theorem zG_of {g : zi_Hp} {n s : Nat} {X : Nat → zCe} {L : Nat} {xs : Nat → Int32} (hn : zh_n g = n) (hs : zh_s g = s) (hc : ∀ b, zc g b = X b) (hL : zh_L g = L) (hx : zh_x g = xs) : g = zG n s X L xs := by
  refine zh_ext hn hs (fun b => ?_) (fun b j => ?_) (fun b j => ?_) (fun b j => ?_) (fun b j => ?_) hL hx
  · exact congrArg (fun q => q.1) (hc b)
  · exact congrFun (congrArg (fun q => q.2.1) (hc b)) j
  · exact congrFun (congrArg (fun q => q.2.2.1) (hc b)) j
  · exact congrFun (congrArg (fun q => q.2.2.2.1) (hc b)) j
  · exact congrFun (congrArg (fun q => q.2.2.2.2) (hc b)) j
section ZG
variable {n s L : Nat} {X : Nat → zCe} {xs : Nat → Int32}
theorem zG_c (b : Nat) : zc (zG n s X L xs) b = X b := rfl
theorem zG_al (k len : Nat) : zh_al (zG n s X L xs) k len = zG (n + 1) (s + len) (zU X n (c00 k len)) L xs := by
  refine zG_of rfl rfl (fun b => ?_) rfl rfl
  unfold zU
  by_cases e : b = n
  · subst e
    rw [if_pos rfl]
    exact zc_al (zG b s X L xs) k len
  · rw [if_neg e]
    exact zc_al_ne (zG n s X L xs) k len b e
theorem zG_wr (a j : Nat) (v : Value) : zh_wr (zG n s X L xs) a j v = zG n s (zU X a (zcr (X a) j v)) L xs := by
  refine zG_of rfl rfl (fun b => ?_) rfl rfl
  unfold zU
  by_cases e : b = a
  · subst e
    rw [if_pos rfl]
    exact zc_wr (zG n s X L xs) b j v
  · rw [if_neg e]
    exact zc_wr_ne (zG n s X L xs) a j v b e
theorem zG_wi (a j : Nat) (v : Int32) : zh_wi (zG n s X L xs) a j v = zG n s (zU X a (zci (X a) j v)) L xs := by
  refine zG_of rfl rfl (fun b => ?_) rfl rfl
  unfold zU
  by_cases e : b = a
  · subst e
    rw [if_pos rfl]
    refine zc_ext rfl (fun i => ?_) (fun _ => rfl) (fun _ => rfl) (fun _ => rfl)
    rw [hp_i_wi]
    by_cases e2 : i = j
    · rw [if_pos ⟨rfl, e2⟩]; exact (if_pos e2).symm
    · rw [if_neg (fun q => e2 q.2)]; exact (if_neg e2).symm
  · rw [if_neg e]
    refine zc_ext rfl (fun i => ?_) (fun _ => rfl) (fun _ => rfl) (fun _ => rfl)
    rw [hp_i_wi, if_neg (fun q => e q.1)]
    rfl
theorem zG_wi_same (a j : Nat) (v : Int32) (e : (X a).2.1 j = v) : zh_wi (zG n s X L xs) a j v = zG n s X L xs := by
  refine zh_ext rfl rfl (fun _ => rfl) (fun b i => ?_) (fun _ _ => rfl) (fun _ _ => rfl) (fun _ _ => rfl) rfl rfl
  rw [hp_i_wi]
  by_cases q : b = a ∧ i = j
  · rw [if_pos q]
    obtain ⟨rfl, rfl⟩ := q
    exact e.symm
  · rw [if_neg q]
theorem zG_wb_same (a j : Nat) (v : Bool) (e : (X a).2.2.1 j = v) : zh_wb (zG n s X L xs) a j v = zG n s X L xs := by
  refine zh_ext rfl rfl (fun _ => rfl) (fun _ _ => rfl) (fun b i => ?_) (fun _ _ => rfl) (fun _ _ => rfl) rfl rfl
  rw [hp_b_wb]
  by_cases q : b = a ∧ i = j
  · rw [if_pos q]
    obtain ⟨rfl, rfl⟩ := q
    exact e.symm
  · rw [if_neg q]
theorem zG_mn : zh_mn (zG n s X L xs) 4 40 = zG (n + 5) (s + 164) (zUM X n) L xs := by
  refine zG_of rfl rfl (fun b => ?_) rfl rfl
  unfold zUM
  by_cases e : b = n
  · subst e
    rw [if_pos rfl]
    refine zc_ext ?_ (fun i => ?_) (fun _ => rfl) (fun _ => rfl) (fun i => ?_)
    · exact if_pos rfl
    · exact if_pos ⟨Nat.le_refl _, Nat.le_add_right _ _⟩
    · exact if_pos rfl
  · rw [if_neg e]
    by_cases e2 : n < b ∧ b ≤ n + 4
    · rw [if_pos e2]
      refine zc_ext ?_ (fun i => ?_) (fun _ => rfl) (fun _ => rfl) (fun i => ?_)
      · exact (if_neg e).trans (if_pos e2)
      · exact if_pos ⟨Nat.le_of_lt e2.1, e2.2⟩
      · exact if_neg e
    · rw [if_neg e2]
      refine zc_ext ?_ (fun i => ?_) (fun _ => rfl) (fun _ => rfl) (fun i => ?_)
      · exact (if_neg e).trans (if_neg e2)
      · exact if_neg (fun q => e2 ⟨Nat.lt_of_le_of_ne q.1 (fun w => e w.symm), q.2⟩)
      · exact if_neg e
theorem zG_World (w : Nat) (hX : X w = c00 6 2) : zv 4 74 0 [.ref w] [] (zG (w + 1) s X L xs) = some (none, zG (w + 16) (s + 484) (zUW X w) L xs) := by
  obtain ⟨g, e1, e2, e3, e4, e5, e6, e7⟩ := c_World (h := zG (w + 1) s X L xs) (w := w) rfl hX
  rw [e1]
  have : g = zG (w + 16) (s + 484) (zUW X w) L xs := by
    refine zG_of e2 e3 (fun b => ?_) e6 e7
    unfold zUW
    by_cases q : w ≤ b ∧ b < w + 16
    · rw [if_pos q, ← e4 (b - w) (by omega), show w + (b - w) = b by omega]
    · rw [if_neg q]
      exact e5 b (by omega)
  rw [this]
end ZG
def zX0 : Nat → zCe := fun _ => ((0, 0), fun _ => 0, fun _ => false, fun _ => 0, fun _ => .null)
def zX1 : Nat → zCe := zU zX0 0 (c00 7 9)
def zX2 : Nat → zCe := zU zX1 1 (c00 6 2)
theorem ct104_0_0 {L : Nat} {xs : Nat → Int32} : zv 6 104 0 [.ref 0] [] (zG 1 9 zX1 L xs) = zv 6 104 8 [.ref 0] [.ref 1, .ref 0] (zG 2 11 zX2 L xs) := by
  rw [b104_0, zG_al]
  rfl
def zX3 : Nat → zCe := zUW zX2 1
theorem ct104_8_1 {L : Nat} {xs : Nat → Int32} : zv 6 104 8 [.ref 0] [.ref 1, .ref 0] (zG 2 11 zX2 L xs) = zv 6 104 12 [.ref 0] [.ref 1, .ref 0] (zG 17 495 zX3 L xs) := by
  rw [b104_8, zG_World 1 rfl]
  rfl
def zX4 : Nat → zCe := zU zX3 0 (zcr (zX3 0) 0 (.ref 1))
def zX5 : Nat → zCe := zU zX4 17 (c00 6 2)
theorem ct104_12_2 {L : Nat} {xs : Nat → Int32} : zv 6 104 12 [.ref 0] [.ref 1, .ref 0] (zG 17 495 zX3 L xs) = zv 6 104 19 [.ref 0] [.ref 17, .ref 0] (zG 18 497 zX5 L xs) := by
  rw [b104_12 (of_decide_eq_true rfl) rfl, zG_wr, zG_al]
  rfl
def zX6 : Nat → zCe := zUW zX5 17
theorem ct104_19_3 {L : Nat} {xs : Nat → Int32} : zv 6 104 19 [.ref 0] [.ref 17, .ref 0] (zG 18 497 zX5 L xs) = zv 6 104 23 [.ref 0] [.ref 17, .ref 0] (zG 33 981 zX6 L xs) := by
  rw [b104_19, zG_World 17 rfl]
  rfl
def zX7 : Nat → zCe := zU zX6 0 (zcr (zX6 0) 1 (.ref 17))
def zX8 : Nat → zCe := zU zX7 33 (c00 103 2)
theorem ct104_23_4 {L : Nat} {xs : Nat → Int32} : zv 6 104 23 [.ref 0] [.ref 17, .ref 0] (zG 33 981 zX6 L xs) = zv 6 104 31 [.ref 0] [.ref 33, .ref 0] (zG 34 983 zX8 L xs) := by
  rw [b104_23 (of_decide_eq_true rfl) rfl, zG_wr, zG_al]
  rfl
def zX9 : Nat → zCe := zU zX8 34 (c00 6 2)
theorem ct104_31_5 {L : Nat} {xs : Nat → Int32} : zv 6 104 31 [.ref 0] [.ref 33, .ref 0] (zG 34 983 zX8 L xs) = zv 6 104 36 [.ref 0] [.ref 34, .int 0, .ref 33, .ref 33, .ref 0] (zG 35 985 zX9 L xs) := by
  rw [b104_31, zG_al]
  rfl
def zX10 : Nat → zCe := zUW zX9 34
theorem ct104_36_6 {L : Nat} {xs : Nat → Int32} : zv 6 104 36 [.ref 0] [.ref 34, .int 0, .ref 33, .ref 33, .ref 0] (zG 35 985 zX9 L xs) = zv 6 104 40 [.ref 0] [.ref 34, .int 0, .ref 33, .ref 33, .ref 0] (zG 50 1469 zX10 L xs) := by
  rw [b104_36, zG_World 34 rfl]
  rfl
def zX11 : Nat → zCe := zU zX10 33 (zcr (zX10 33) 0 (.ref 34))
def zX12 : Nat → zCe := zU zX11 50 (c00 6 2)
theorem ct104_40_7 {L : Nat} {xs : Nat → Int32} : zv 6 104 40 [.ref 0] [.ref 34, .int 0, .ref 33, .ref 33, .ref 0] (zG 50 1469 zX10 L xs) = zv 6 104 46 [.ref 0] [.ref 50, .int 1, .ref 33, .ref 33, .ref 0] (zG 51 1471 zX12 L xs) := by
  rw [b104_40 (of_decide_eq_true rfl) (of_decide_eq_true rfl) (Or.inl rfl) (of_decide_eq_true rfl) rfl, zG_wr, zG_al]
  rfl
def zX13 : Nat → zCe := zUW zX12 50
theorem ct104_46_8 {L : Nat} {xs : Nat → Int32} : zv 6 104 46 [.ref 0] [.ref 50, .int 1, .ref 33, .ref 33, .ref 0] (zG 51 1471 zX12 L xs) = zv 6 104 50 [.ref 0] [.ref 50, .int 1, .ref 33, .ref 33, .ref 0] (zG 66 1955 zX13 L xs) := by
  rw [b104_46, zG_World 50 rfl]
  rfl
def zX14 : Nat → zCe := zU zX13 33 (zcr (zX13 33) 1 (.ref 50))
def zX15 : Nat → zCe := zU zX14 0 (zcr (zX14 0) 2 (.ref 33))
def zX16 : Nat → zCe := zU zX15 66 (c00 101 2)
theorem ct104_50_9 {L : Nat} {xs : Nat → Int32} : zv 6 104 50 [.ref 0] [.ref 50, .int 1, .ref 33, .ref 33, .ref 0] (zG 66 1955 zX13 L xs) = zv 6 104 58 [.ref 0] [.ref 66, .ref 0] (zG 67 1957 zX16 L xs) := by
  rw [b104_50 (of_decide_eq_true rfl) (of_decide_eq_true rfl) (Or.inl rfl) (of_decide_eq_true rfl) rfl (of_decide_eq_true rfl) rfl, zG_wr, zG_wr, zG_al]
  rfl
def zX17 : Nat → zCe := zU zX16 0 (zcr (zX16 0) 3 (.ref 66))
def zX18 : Nat → zCe := zU zX17 67 (c00 5 13)
theorem ct104_58_10 {L : Nat} {xs : Nat → Int32} : zv 6 104 58 [.ref 0] [.ref 66, .ref 0] (zG 67 1957 zX16 L xs) = zv 6 104 65 [.ref 0] [.ref 67, .ref 0] (zG 68 1970 zX18 L xs) := by
  rw [b104_58 (of_decide_eq_true rfl) rfl, zG_wr, zG_al]
  rfl
def zX19 : Nat → zCe := zU zX18 68 (c00 103 8)
theorem ct70_0_11 {L : Nat} {xs : Nat → Int32} : zv 5 70 0 [.ref 67, .double 0] [] (zG 68 1970 zX18 L xs) = zv 5 70 10 [.ref 67, .double 0] [.ref 68, .ref 67] (zG 69 1978 zX19 L xs) := by
  rw [b70_0, zG_al]
  rfl
def zX20 : Nat → zCe := zU zX19 67 (zcr (zX19 67) 0 (.ref 68))
theorem ct70_10 {L : Nat} {xs : Nat → Int32} : zv 5 70 10 [.ref 67, .double 0] [.ref 68, .ref 67] (zG 69 1978 zX19 L xs) = zv 5 70 15 [.ref 67, .int 0] [] (zG 69 1978 zX20 L xs) := by
  rw [b70_10 (of_decide_eq_true rfl) rfl, zG_wr]
  rfl
def zX21 : Nat → zCe := zU zX20 69 (c00 6 2)
theorem ct70_15_0 {L : Nat} {xs : Nat → Int32} : zv 5 70 15 [.ref 67, .int 0] [] (zG 69 1978 zX20 L xs) = zv 5 70 29 [.ref 67, .int 0] [.ref 69, .int 0, .ref 68] (zG 70 1980 zX21 L xs) := by
  rw [b70_15, if_neg (by decide), b70_21 (of_decide_eq_true rfl) rfl rfl, zG_al]
  rfl
def zX22 : Nat → zCe := zUW zX21 69
theorem ct70_29_14 {L : Nat} {xs : Nat → Int32} : zv 5 70 29 [.ref 67, .int 0] [.ref 69, .int 0, .ref 68] (zG 70 1980 zX21 L xs) = zv 5 70 33 [.ref 67, .int 0] [.ref 69, .int 0, .ref 68] (zG 85 2464 zX22 L xs) := by
  rw [b70_29, zG_World 69 rfl]
  rfl
def zX23 : Nat → zCe := zU zX22 68 (zcr (zX22 68) 0 (.ref 69))
theorem ct70_33_0 {L : Nat} {xs : Nat → Int32} : zv 5 70 33 [.ref 67, .int 0] [.ref 69, .int 0, .ref 68] (zG 85 2464 zX22 L xs) = zv 5 70 15 [.ref 67, .int 1] [] (zG 85 2464 zX23 L xs) := by
  rw [b70_33 (of_decide_eq_true rfl) (of_decide_eq_true rfl) (Or.inl rfl) (of_decide_eq_true rfl) rfl, zG_wr]
  rfl
def zX24 : Nat → zCe := zU zX23 85 (c00 6 2)
theorem ct70_15_1 {L : Nat} {xs : Nat → Int32} : zv 5 70 15 [.ref 67, .int 1] [] (zG 85 2464 zX23 L xs) = zv 5 70 29 [.ref 67, .int 1] [.ref 85, .int 1, .ref 68] (zG 86 2466 zX24 L xs) := by
  rw [b70_15, if_neg (by decide), b70_21 (of_decide_eq_true rfl) rfl rfl, zG_al]
  rfl
def zX25 : Nat → zCe := zUW zX24 85
theorem ct70_29_17 {L : Nat} {xs : Nat → Int32} : zv 5 70 29 [.ref 67, .int 1] [.ref 85, .int 1, .ref 68] (zG 86 2466 zX24 L xs) = zv 5 70 33 [.ref 67, .int 1] [.ref 85, .int 1, .ref 68] (zG 101 2950 zX25 L xs) := by
  rw [b70_29, zG_World 85 rfl]
  rfl
def zX26 : Nat → zCe := zU zX25 68 (zcr (zX25 68) 1 (.ref 85))
theorem ct70_33_1 {L : Nat} {xs : Nat → Int32} : zv 5 70 33 [.ref 67, .int 1] [.ref 85, .int 1, .ref 68] (zG 101 2950 zX25 L xs) = zv 5 70 15 [.ref 67, .int 2] [] (zG 101 2950 zX26 L xs) := by
  rw [b70_33 (of_decide_eq_true rfl) (of_decide_eq_true rfl) (Or.inl rfl) (of_decide_eq_true rfl) rfl, zG_wr]
  rfl
def zX27 : Nat → zCe := zU zX26 101 (c00 6 2)
theorem ct70_15_2 {L : Nat} {xs : Nat → Int32} : zv 5 70 15 [.ref 67, .int 2] [] (zG 101 2950 zX26 L xs) = zv 5 70 29 [.ref 67, .int 2] [.ref 101, .int 2, .ref 68] (zG 102 2952 zX27 L xs) := by
  rw [b70_15, if_neg (by decide), b70_21 (of_decide_eq_true rfl) rfl rfl, zG_al]
  rfl
def zX28 : Nat → zCe := zUW zX27 101
theorem ct70_29_20 {L : Nat} {xs : Nat → Int32} : zv 5 70 29 [.ref 67, .int 2] [.ref 101, .int 2, .ref 68] (zG 102 2952 zX27 L xs) = zv 5 70 33 [.ref 67, .int 2] [.ref 101, .int 2, .ref 68] (zG 117 3436 zX28 L xs) := by
  rw [b70_29, zG_World 101 rfl]
  rfl
def zX29 : Nat → zCe := zU zX28 68 (zcr (zX28 68) 2 (.ref 101))
theorem ct70_33_2 {L : Nat} {xs : Nat → Int32} : zv 5 70 33 [.ref 67, .int 2] [.ref 101, .int 2, .ref 68] (zG 117 3436 zX28 L xs) = zv 5 70 15 [.ref 67, .int 3] [] (zG 117 3436 zX29 L xs) := by
  rw [b70_33 (of_decide_eq_true rfl) (of_decide_eq_true rfl) (Or.inl rfl) (of_decide_eq_true rfl) rfl, zG_wr]
  rfl
def zX30 : Nat → zCe := zU zX29 117 (c00 6 2)
theorem ct70_15_3 {L : Nat} {xs : Nat → Int32} : zv 5 70 15 [.ref 67, .int 3] [] (zG 117 3436 zX29 L xs) = zv 5 70 29 [.ref 67, .int 3] [.ref 117, .int 3, .ref 68] (zG 118 3438 zX30 L xs) := by
  rw [b70_15, if_neg (by decide), b70_21 (of_decide_eq_true rfl) rfl rfl, zG_al]
  rfl
def zX31 : Nat → zCe := zUW zX30 117
theorem ct70_29_23 {L : Nat} {xs : Nat → Int32} : zv 5 70 29 [.ref 67, .int 3] [.ref 117, .int 3, .ref 68] (zG 118 3438 zX30 L xs) = zv 5 70 33 [.ref 67, .int 3] [.ref 117, .int 3, .ref 68] (zG 133 3922 zX31 L xs) := by
  rw [b70_29, zG_World 117 rfl]
  rfl
def zX32 : Nat → zCe := zU zX31 68 (zcr (zX31 68) 3 (.ref 117))
theorem ct70_33_3 {L : Nat} {xs : Nat → Int32} : zv 5 70 33 [.ref 67, .int 3] [.ref 117, .int 3, .ref 68] (zG 133 3922 zX31 L xs) = zv 5 70 15 [.ref 67, .int 4] [] (zG 133 3922 zX32 L xs) := by
  rw [b70_33 (of_decide_eq_true rfl) (of_decide_eq_true rfl) (Or.inl rfl) (of_decide_eq_true rfl) rfl, zG_wr]
  rfl
def zX33 : Nat → zCe := zU zX32 133 (c00 6 2)
theorem ct70_15_4 {L : Nat} {xs : Nat → Int32} : zv 5 70 15 [.ref 67, .int 4] [] (zG 133 3922 zX32 L xs) = zv 5 70 29 [.ref 67, .int 4] [.ref 133, .int 4, .ref 68] (zG 134 3924 zX33 L xs) := by
  rw [b70_15, if_neg (by decide), b70_21 (of_decide_eq_true rfl) rfl rfl, zG_al]
  rfl
def zX34 : Nat → zCe := zUW zX33 133
theorem ct70_29_26 {L : Nat} {xs : Nat → Int32} : zv 5 70 29 [.ref 67, .int 4] [.ref 133, .int 4, .ref 68] (zG 134 3924 zX33 L xs) = zv 5 70 33 [.ref 67, .int 4] [.ref 133, .int 4, .ref 68] (zG 149 4408 zX34 L xs) := by
  rw [b70_29, zG_World 133 rfl]
  rfl
def zX35 : Nat → zCe := zU zX34 68 (zcr (zX34 68) 4 (.ref 133))
theorem ct70_33_4 {L : Nat} {xs : Nat → Int32} : zv 5 70 33 [.ref 67, .int 4] [.ref 133, .int 4, .ref 68] (zG 149 4408 zX34 L xs) = zv 5 70 15 [.ref 67, .int 5] [] (zG 149 4408 zX35 L xs) := by
  rw [b70_33 (of_decide_eq_true rfl) (of_decide_eq_true rfl) (Or.inl rfl) (of_decide_eq_true rfl) rfl, zG_wr]
  rfl
def zX36 : Nat → zCe := zU zX35 149 (c00 6 2)
theorem ct70_15_5 {L : Nat} {xs : Nat → Int32} : zv 5 70 15 [.ref 67, .int 5] [] (zG 149 4408 zX35 L xs) = zv 5 70 29 [.ref 67, .int 5] [.ref 149, .int 5, .ref 68] (zG 150 4410 zX36 L xs) := by
  rw [b70_15, if_neg (by decide), b70_21 (of_decide_eq_true rfl) rfl rfl, zG_al]
  rfl
def zX37 : Nat → zCe := zUW zX36 149
theorem ct70_29_29 {L : Nat} {xs : Nat → Int32} : zv 5 70 29 [.ref 67, .int 5] [.ref 149, .int 5, .ref 68] (zG 150 4410 zX36 L xs) = zv 5 70 33 [.ref 67, .int 5] [.ref 149, .int 5, .ref 68] (zG 165 4894 zX37 L xs) := by
  rw [b70_29, zG_World 149 rfl]
  rfl
def zX38 : Nat → zCe := zU zX37 68 (zcr (zX37 68) 5 (.ref 149))
theorem ct70_33_5 {L : Nat} {xs : Nat → Int32} : zv 5 70 33 [.ref 67, .int 5] [.ref 149, .int 5, .ref 68] (zG 165 4894 zX37 L xs) = zv 5 70 15 [.ref 67, .int 6] [] (zG 165 4894 zX38 L xs) := by
  rw [b70_33 (of_decide_eq_true rfl) (of_decide_eq_true rfl) (Or.inl rfl) (of_decide_eq_true rfl) rfl, zG_wr]
  rfl
def zX39 : Nat → zCe := zU zX38 165 (c00 6 2)
theorem ct70_15_6 {L : Nat} {xs : Nat → Int32} : zv 5 70 15 [.ref 67, .int 6] [] (zG 165 4894 zX38 L xs) = zv 5 70 29 [.ref 67, .int 6] [.ref 165, .int 6, .ref 68] (zG 166 4896 zX39 L xs) := by
  rw [b70_15, if_neg (by decide), b70_21 (of_decide_eq_true rfl) rfl rfl, zG_al]
  rfl
def zX40 : Nat → zCe := zUW zX39 165
theorem ct70_29_32 {L : Nat} {xs : Nat → Int32} : zv 5 70 29 [.ref 67, .int 6] [.ref 165, .int 6, .ref 68] (zG 166 4896 zX39 L xs) = zv 5 70 33 [.ref 67, .int 6] [.ref 165, .int 6, .ref 68] (zG 181 5380 zX40 L xs) := by
  rw [b70_29, zG_World 165 rfl]
  rfl
def zX41 : Nat → zCe := zU zX40 68 (zcr (zX40 68) 6 (.ref 165))
theorem ct70_33_6 {L : Nat} {xs : Nat → Int32} : zv 5 70 33 [.ref 67, .int 6] [.ref 165, .int 6, .ref 68] (zG 181 5380 zX40 L xs) = zv 5 70 15 [.ref 67, .int 7] [] (zG 181 5380 zX41 L xs) := by
  rw [b70_33 (of_decide_eq_true rfl) (of_decide_eq_true rfl) (Or.inl rfl) (of_decide_eq_true rfl) rfl, zG_wr]
  rfl
def zX42 : Nat → zCe := zU zX41 181 (c00 6 2)
theorem ct70_15_7 {L : Nat} {xs : Nat → Int32} : zv 5 70 15 [.ref 67, .int 7] [] (zG 181 5380 zX41 L xs) = zv 5 70 29 [.ref 67, .int 7] [.ref 181, .int 7, .ref 68] (zG 182 5382 zX42 L xs) := by
  rw [b70_15, if_neg (by decide), b70_21 (of_decide_eq_true rfl) rfl rfl, zG_al]
  rfl
def zX43 : Nat → zCe := zUW zX42 181
theorem ct70_29_35 {L : Nat} {xs : Nat → Int32} : zv 5 70 29 [.ref 67, .int 7] [.ref 181, .int 7, .ref 68] (zG 182 5382 zX42 L xs) = zv 5 70 33 [.ref 67, .int 7] [.ref 181, .int 7, .ref 68] (zG 197 5866 zX43 L xs) := by
  rw [b70_29, zG_World 181 rfl]
  rfl
def zX44 : Nat → zCe := zU zX43 68 (zcr (zX43 68) 7 (.ref 181))
theorem ct70_33_7 {L : Nat} {xs : Nat → Int32} : zv 5 70 33 [.ref 67, .int 7] [.ref 181, .int 7, .ref 68] (zG 197 5866 zX43 L xs) = zv 5 70 15 [.ref 67, .int 8] [] (zG 197 5866 zX44 L xs) := by
  rw [b70_33 (of_decide_eq_true rfl) (of_decide_eq_true rfl) (Or.inl rfl) (of_decide_eq_true rfl) rfl, zG_wr]
  rfl
theorem ct70_15_8 {L : Nat} {xs : Nat → Int32} : zv 5 70 15 [.ref 67, .int 8] [] (zG 197 5866 zX44 L xs) = some (none, (zG 197 5866 zX44 L xs)) := by
  rw [b70_15, if_pos (by decide), b70_40]
theorem ct70 {L : Nat} {xs : Nat → Int32} : zv 5 70 0 [.ref 67, .double 0] [] (zG 68 1970 zX18 L xs) = some (none, (zG 197 5866 zX44 L xs)) := by
  rw [ct70_0_11, ct70_10, ct70_15_0, ct70_29_14, ct70_33_0, ct70_15_1, ct70_29_17, ct70_33_1, ct70_15_2, ct70_29_20, ct70_33_2, ct70_15_3, ct70_29_23, ct70_33_3, ct70_15_4, ct70_29_26, ct70_33_4, ct70_15_5, ct70_29_29, ct70_33_5, ct70_15_6, ct70_29_32, ct70_33_6, ct70_15_7, ct70_29_35, ct70_33_7, ct70_15_8]
theorem ct104_65 {L : Nat} {xs : Nat → Int32} : zv 6 104 65 [.ref 0] [.ref 67, .ref 0] (zG 68 1970 zX18 L xs) = zv 6 104 69 [.ref 0] [.ref 67, .ref 0] (zG 197 5866 zX44 L xs) := by
  rw [b104_65, ct70]
  rfl
def zX45 : Nat → zCe := zU zX44 0 (zcr (zX44 0) 4 (.ref 67))
def zX46 : Nat → zCe := zU zX45 197 (c00 3 6)
theorem ct104_69_12 {L : Nat} {xs : Nat → Int32} : zv 6 104 69 [.ref 0] [.ref 67, .ref 0] (zG 197 5866 zX44 L xs) = zv 6 104 76 [.ref 0] [.ref 197, .ref 0] (zG 198 5872 zX46 L xs) := by
  rw [b104_69 (of_decide_eq_true rfl) rfl, zG_wr, zG_al]
  rfl
def zX47 : Nat → zCe := zU zX46 198 (c00 100 160)
def zX48 : Nat → zCe := zU zX47 197 (zcr (zX47 197) 0 (.ref 198))
def zX49 : Nat → zCe := zU zX48 197 (zci (zX48 197) 1 (0))
theorem ct104_76 {L : Nat} {xs : Nat → Int32} : zv 6 104 76 [.ref 0] [.ref 197, .ref 0] (zG 198 5872 zX46 L xs) = zv 6 104 80 [.ref 0] [.ref 197, .ref 0] (zG 199 6032 zX49 L xs) := by
  rw [b104_76, b27_0, zG_al, b27_10 (of_decide_eq_true rfl) rfl (of_decide_eq_true rfl) rfl, zG_wr, zG_wi]
  rfl
def zX50 : Nat → zCe := zU zX49 0 (zcr (zX49 0) 5 (.ref 197))
def zX51 : Nat → zCe := zU zX50 199 (c00 1 9)
theorem ct104_80_14 {L : Nat} {xs : Nat → Int32} : zv 6 104 80 [.ref 0] [.ref 197, .ref 0] (zG 199 6032 zX49 L xs) = zv 6 104 87 [.ref 0] [.ref 199, .ref 0] (zG 200 6041 zX51 L xs) := by
  rw [b104_80 (of_decide_eq_true rfl) rfl, zG_wr, zG_al]
  rfl
def zX52 : Nat → zCe := zU zX51 200 (c00 100 40)
def zX53 : Nat → zCe := zU zX52 199 (zcr (zX52 199) 5 (.ref 200))
def zX54 : Nat → zCe := zU zX53 201 (c00 100 40)
def zX55 : Nat → zCe := zU zX54 199 (zcr (zX54 199) 6 (.ref 201))
def zX56 : Nat → zCe := zU zX55 202 (c00 100 3)
def zX57 : Nat → zCe := zU zX56 199 (zcr (zX56 199) 7 (.ref 202))
theorem ct104_87 {L : Nat} {xs : Nat → Int32} : zv 6 104 87 [.ref 0] [.ref 199, .ref 0] (zG 200 6041 zX51 L xs) = zv 6 104 91 [.ref 0] [.ref 199, .ref 0] (zG 203 6124 zX57 L xs) := by
  rw [b104_87, b12_0, zG_al, b12_9 (of_decide_eq_true rfl) rfl, zG_wr, zG_al, b12_17 (of_decide_eq_true rfl) rfl, zG_wr, zG_al, b12_24 (of_decide_eq_true rfl) rfl, zG_wr]
  rfl
def zX58 : Nat → zCe := zU zX57 0 (zcr (zX57 0) 6 (.ref 199))
def zX59 : Nat → zCe := zU zX58 203 (c00 2 3)
theorem ct104_91_16 {L : Nat} {xs : Nat → Int32} : zv 6 104 91 [.ref 0] [.ref 199, .ref 0] (zG 203 6124 zX57 L xs) = zv 6 104 98 [.ref 0] [.ref 203, .ref 0] (zG 204 6127 zX59 L xs) := by
  rw [b104_91 (of_decide_eq_true rfl) rfl, zG_wr, zG_al]
  rfl
def zX60 : Nat → zCe := zU zX59 204 (c00 100 4)
def zX61 : Nat → zCe := zU zX60 204 (zci (zX60 204) 0 (-4))
def zX62 : Nat → zCe := zU zX61 204 (zci (zX61 204) 1 (-4))
def zX63 : Nat → zCe := zU zX62 204 (zci (zX62 204) 2 (-4))
def zX64 : Nat → zCe := zU zX63 204 (zci (zX63 204) 3 (-4))
def zX65 : Nat → zCe := zU zX64 203 (zcr (zX64 203) 0 (.ref 204))
def zX66 : Nat → zCe := zU zX65 205 (c00 100 4)
def zX67 : Nat → zCe := zU zX66 203 (zcr (zX66 203) 1 (.ref 205))
def zX68 : Nat → zCe := zUM zX67 206
def zX69 : Nat → zCe := zU zX68 203 (zcr (zX68 203) 2 (.ref 206))
theorem ct104_98 {L : Nat} {xs : Nat → Int32} : zv 6 104 98 [.ref 0] [.ref 203, .ref 0] (zG 204 6127 zX59 L xs) = zv 6 104 102 [.ref 0] [.ref 203, .ref 0] (zG 211 6299 zX69 L xs) := by
  rw [b104_98, b22_0, zG_al, b22_8 (of_decide_eq_true rfl) (of_decide_eq_true rfl) rfl (of_decide_eq_true rfl) (of_decide_eq_true rfl) (of_decide_eq_true rfl) (of_decide_eq_true rfl) rfl, zG_wi, zG_wi, zG_wi, zG_wi, zG_wr, zG_al, b22_35 (of_decide_eq_true rfl) rfl, zG_wr, zG_mn, b22_46 (of_decide_eq_true rfl) rfl, zG_wr]
  rfl
def zX70 : Nat → zCe := zU zX69 0 (zcr (zX69 0) 7 (.ref 203))
def zX71 : Nat → zCe := zU zX70 0 (zci (zX70 0) 8 (0))
theorem ct104_102 {L : Nat} {xs : Nat → Int32} : zv 6 104 102 [.ref 0] [.ref 203, .ref 0] (zG 211 6299 zX69 L xs) = some (none, (zG 211 6299 zX71 L xs)) := by
  rw [b104_102 (of_decide_eq_true rfl) rfl (of_decide_eq_true rfl) rfl, zG_wr, zG_wi]
  rfl
theorem ct104 {L : Nat} {xs : Nat → Int32} : zv 6 104 0 [.ref 0] [] (zG 1 9 zX1 L xs) = some (none, (zG 211 6299 zX71 L xs)) := by
  rw [ct104_0_0, ct104_8_1, ct104_12_2, ct104_19_3, ct104_23_4, ct104_31_5, ct104_36_6, ct104_40_7, ct104_46_8, ct104_50_9, ct104_58_10, ct104_65, ct104_69_12, ct104_76, ct104_80_14, ct104_87, ct104_91_16, ct104_98, ct104_102]
def zX72 : Nat → zCe := zU zX71 211 (c00 8 39)
def zX73 : Nat → zCe := zU zX72 212 (c00 100 387)
theorem ct141_0_0 {L : Nat} {xs : Nat → Int32} : zv 3 141 0 [.ref 211, .double 0] [] (zG 212 6338 zX72 L xs) = zv 3 141 10 [.ref 211, .double 0] [.ref 212, .ref 211] (zG 213 6725 zX73 L xs) := by
  rw [b141_0, zG_al]
  rfl
def zX74 : Nat → zCe := zU zX73 211 (zcr (zX73 211) 0 (.ref 212))
def zX75 : Nat → zCe := zU zX74 213 (c00 100 774)
theorem ct141_10_1 {L : Nat} {xs : Nat → Int32} : zv 3 141 10 [.ref 211, .double 0] [.ref 212, .ref 211] (zG 213 6725 zX73 L xs) = zv 3 141 19 [.ref 211, .double 0] [.ref 213, .ref 211] (zG 214 7499 zX75 L xs) := by
  rw [b141_10 (of_decide_eq_true rfl) rfl, zG_wr, zG_al]
  rfl
def zX76 : Nat → zCe := zU zX75 211 (zcr (zX75 211) 1 (.ref 213))
def zX77 : Nat → zCe := zU zX76 214 (c00 101 2)
theorem ct141_19_2 {L : Nat} {xs : Nat → Int32} : zv 3 141 19 [.ref 211, .double 0] [.ref 213, .ref 211] (zG 214 7499 zX75 L xs) = zv 3 141 26 [.ref 211, .double 0] [.ref 214, .ref 211] (zG 215 7501 zX77 L xs) := by
  rw [b141_19 (of_decide_eq_true rfl) rfl, zG_wr, zG_al]
  rfl
def zX78 : Nat → zCe := zU zX77 211 (zcr (zX77 211) 2 (.ref 214))
def zX79 : Nat → zCe := zU zX78 215 (c00 100 5)
theorem ct141_26_3 {L : Nat} {xs : Nat → Int32} : zv 3 141 26 [.ref 211, .double 0] [.ref 214, .ref 211] (zG 215 7501 zX77 L xs) = zv 3 141 33 [.ref 211, .double 0] [.ref 215, .ref 211] (zG 216 7506 zX79 L xs) := by
  rw [b141_26 (of_decide_eq_true rfl) rfl, zG_wr, zG_al]
  rfl
def zX80 : Nat → zCe := zU zX79 211 (zcr (zX79 211) 3 (.ref 215))
def zX81 : Nat → zCe := zU zX80 216 (c00 100 5)
theorem ct141_33_4 {L : Nat} {xs : Nat → Int32} : zv 3 141 33 [.ref 211, .double 0] [.ref 215, .ref 211] (zG 216 7506 zX79 L xs) = zv 3 141 40 [.ref 211, .double 0] [.ref 216, .ref 211] (zG 217 7511 zX81 L xs) := by
  rw [b141_33 (of_decide_eq_true rfl) rfl, zG_wr, zG_al]
  rfl
def zX82 : Nat → zCe := zU zX81 211 (zcr (zX81 211) 4 (.ref 216))
def zX83 : Nat → zCe := zU zX82 217 (c00 101 3)
theorem ct141_40_5 {L : Nat} {xs : Nat → Int32} : zv 3 141 40 [.ref 211, .double 0] [.ref 216, .ref 211] (zG 217 7511 zX81 L xs) = zv 3 141 47 [.ref 211, .double 0] [.ref 217, .ref 211] (zG 218 7514 zX83 L xs) := by
  rw [b141_40 (of_decide_eq_true rfl) rfl, zG_wr, zG_al]
  rfl
def zX84 : Nat → zCe := zU zX83 211 (zcr (zX83 211) 6 (.ref 217))
def zX85 : Nat → zCe := zU zX84 218 (c00 100 160)
theorem ct141_47_6 {L : Nat} {xs : Nat → Int32} : zv 3 141 47 [.ref 211, .double 0] [.ref 217, .ref 211] (zG 218 7514 zX83 L xs) = zv 3 141 56 [.ref 211, .double 0] [.ref 218, .ref 211] (zG 219 7674 zX85 L xs) := by
  rw [b141_47 (of_decide_eq_true rfl) rfl, zG_wr, zG_al]
  rfl
def zX86 : Nat → zCe := zU zX85 211 (zcr (zX85 211) 7 (.ref 218))
def zX87 : Nat → zCe := zU zX86 219 (c00 100 80)
theorem ct141_56_7 {L : Nat} {xs : Nat → Int32} : zv 3 141 56 [.ref 211, .double 0] [.ref 218, .ref 211] (zG 219 7674 zX85 L xs) = zv 3 141 64 [.ref 211, .double 0] [.ref 219, .ref 211] (zG 220 7754 zX87 L xs) := by
  rw [b141_56 (of_decide_eq_true rfl) rfl, zG_wr, zG_al]
  rfl
def zX88 : Nat → zCe := zU zX87 211 (zcr (zX87 211) 17 (.ref 219))
def zX89 : Nat → zCe := zU zX88 220 (c00 100 6)
theorem ct141_64_8 {L : Nat} {xs : Nat → Int32} : zv 3 141 64 [.ref 211, .double 0] [.ref 219, .ref 211] (zG 220 7754 zX87 L xs) = zv 3 141 72 [.ref 211, .double 0] [.ref 220, .ref 211] (zG 221 7760 zX89 L xs) := by
  rw [b141_64 (of_decide_eq_true rfl) rfl, zG_wr, zG_al]
  rfl
def zX90 : Nat → zCe := zU zX89 211 (zcr (zX89 211) 19 (.ref 220))
def zX91 : Nat → zCe := zU zX90 221 (c00 100 3096)
theorem ct141_72_9 {L : Nat} {xs : Nat → Int32} : zv 3 141 72 [.ref 211, .double 0] [.ref 220, .ref 211] (zG 221 7760 zX89 L xs) = zv 3 141 81 [.ref 211, .double 0] [.ref 221, .ref 211] (zG 222 10856 zX91 L xs) := by
  rw [b141_72 (of_decide_eq_true rfl) rfl, zG_wr, zG_al]
  rfl
def zX92 : Nat → zCe := zU zX91 211 (zcr (zX91 211) 21 (.ref 221))
def zX93 : Nat → zCe := zU zX92 222 (c00 100 8)
theorem ct141_81_10 {L : Nat} {xs : Nat → Int32} : zv 3 141 81 [.ref 211, .double 0] [.ref 221, .ref 211] (zG 222 10856 zX91 L xs) = zv 3 141 89 [.ref 211, .double 0] [.ref 222, .ref 211] (zG 223 10864 zX93 L xs) := by
  rw [b141_81 (of_decide_eq_true rfl) rfl, zG_wr, zG_al]
  rfl
def zX94 : Nat → zCe := zU zX93 211 (zcr (zX93 211) 22 (.ref 222))
def zX95 : Nat → zCe := zU zX94 223 (c00 100 8)
theorem ct141_89_11 {L : Nat} {xs : Nat → Int32} : zv 3 141 89 [.ref 211, .double 0] [.ref 222, .ref 211] (zG 223 10864 zX93 L xs) = zv 3 141 97 [.ref 211, .double 0] [.ref 223, .ref 211] (zG 224 10872 zX95 L xs) := by
  rw [b141_89 (of_decide_eq_true rfl) rfl, zG_wr, zG_al]
  rfl
def zX96 : Nat → zCe := zU zX95 211 (zcr (zX95 211) 23 (.ref 223))
def zX97 : Nat → zCe := zU zX96 224 (c00 100 8)
theorem ct141_97_12 {L : Nat} {xs : Nat → Int32} : zv 3 141 97 [.ref 211, .double 0] [.ref 223, .ref 211] (zG 224 10872 zX95 L xs) = zv 3 141 105 [.ref 211, .double 0] [.ref 224, .ref 211] (zG 225 10880 zX97 L xs) := by
  rw [b141_97 (of_decide_eq_true rfl) rfl, zG_wr, zG_al]
  rfl
def zX98 : Nat → zCe := zU zX97 211 (zcr (zX97 211) 24 (.ref 224))
def zX99 : Nat → zCe := zU zX98 225 (c00 100 8)
theorem ct141_105_13 {L : Nat} {xs : Nat → Int32} : zv 3 141 105 [.ref 211, .double 0] [.ref 224, .ref 211] (zG 225 10880 zX97 L xs) = zv 3 141 113 [.ref 211, .double 0] [.ref 225, .ref 211] (zG 226 10888 zX99 L xs) := by
  rw [b141_105 (of_decide_eq_true rfl) rfl, zG_wr, zG_al]
  rfl
def zX100 : Nat → zCe := zU zX99 211 (zcr (zX99 211) 25 (.ref 225))
def zX101 : Nat → zCe := zU zX100 226 (c00 102 8)
theorem ct141_113_14 {L : Nat} {xs : Nat → Int32} : zv 3 141 113 [.ref 211, .double 0] [.ref 225, .ref 211] (zG 226 10888 zX99 L xs) = zv 3 141 121 [.ref 211, .double 0] [.ref 226, .ref 211] (zG 227 10896 zX101 L xs) := by
  rw [b141_113 (of_decide_eq_true rfl) rfl, zG_wr, zG_al]
  rfl
def zX102 : Nat → zCe := zU zX101 211 (zcr (zX101 211) 26 (.ref 226))
def zX103 : Nat → zCe := zU zX102 227 (c00 100 6)
theorem ct141_121_15 {L : Nat} {xs : Nat → Int32} : zv 3 141 121 [.ref 211, .double 0] [.ref 226, .ref 211] (zG 227 10896 zX101 L xs) = zv 3 141 129 [.ref 211, .double 0] [.ref 227, .ref 211] (zG 228 10902 zX103 L xs) := by
  rw [b141_121 (of_decide_eq_true rfl) rfl, zG_wr, zG_al]
  rfl
def zX104 : Nat → zCe := zU zX103 211 (zcr (zX103 211) 32 (.ref 227))
def zX105 : Nat → zCe := zU zX104 228 (c00 100 6)
theorem ct141_129_16 {L : Nat} {xs : Nat → Int32} : zv 3 141 129 [.ref 211, .double 0] [.ref 227, .ref 211] (zG 228 10902 zX103 L xs) = zv 3 141 137 [.ref 211, .double 0] [.ref 228, .ref 211] (zG 229 10908 zX105 L xs) := by
  rw [b141_129 (of_decide_eq_true rfl) rfl, zG_wr, zG_al]
  rfl
def zX106 : Nat → zCe := zU zX105 211 (zcr (zX105 211) 33 (.ref 228))
def zX107 : Nat → zCe := zU zX106 229 (c00 102 6)
theorem ct141_137_17 {L : Nat} {xs : Nat → Int32} : zv 3 141 137 [.ref 211, .double 0] [.ref 228, .ref 211] (zG 229 10908 zX105 L xs) = zv 3 141 145 [.ref 211, .double 0] [.ref 229, .ref 211] (zG 230 10914 zX107 L xs) := by
  rw [b141_137 (of_decide_eq_true rfl) rfl, zG_wr, zG_al]
  rfl
def zX108 : Nat → zCe := zU zX107 211 (zcr (zX107 211) 34 (.ref 229))
def zX109 : Nat → zCe := zU zX108 230 (c00 100 4)
theorem ct141_145_18 {L : Nat} {xs : Nat → Int32} : zv 3 141 145 [.ref 211, .double 0] [.ref 229, .ref 211] (zG 230 10914 zX107 L xs) = zv 3 141 152 [.ref 211, .double 0] [.ref 230, .ref 211] (zG 231 10918 zX109 L xs) := by
  rw [b141_145 (of_decide_eq_true rfl) rfl, zG_wr, zG_al]
  rfl
def zX110 : Nat → zCe := zU zX109 211 (zcr (zX109 211) 35 (.ref 230))
def zX111 : Nat → zCe := zU zX110 231 (c00 100 4)
theorem ct141_152_19 {L : Nat} {xs : Nat → Int32} : zv 3 141 152 [.ref 211, .double 0] [.ref 230, .ref 211] (zG 231 10918 zX109 L xs) = zv 3 141 159 [.ref 211, .double 0] [.ref 231, .ref 211] (zG 232 10922 zX111 L xs) := by
  rw [b141_152 (of_decide_eq_true rfl) rfl, zG_wr, zG_al]
  rfl
def zX112 : Nat → zCe := zU zX111 211 (zcr (zX111 211) 36 (.ref 231))
def zX113 : Nat → zCe := zU zX112 232 (c00 100 160)
theorem ct141_159_20 {L : Nat} {xs : Nat → Int32} : zv 3 141 159 [.ref 211, .double 0] [.ref 231, .ref 211] (zG 232 10922 zX111 L xs) = zv 3 141 168 [.ref 211, .double 0] [.ref 232, .ref 211] (zG 233 11082 zX113 L xs) := by
  rw [b141_159 (of_decide_eq_true rfl) rfl, zG_wr, zG_al]
  rfl
def zX114 : Nat → zCe := zU zX113 211 (zcr (zX113 211) 37 (.ref 232))
theorem ct141_168 {L : Nat} {xs : Nat → Int32} : zv 3 141 168 [.ref 211, .double 0] [.ref 232, .ref 211] (zG 233 11082 zX113 L xs) = zv 3 141 173 [.ref 211, .int 0] [] (zG 233 11082 zX114 L xs) := by
  rw [b141_168 (of_decide_eq_true rfl) rfl, zG_wr]
  rfl
def zX115 : Nat → zCe := zU zX114 230 (zci (zX114 230) 0 (-4))
theorem ct141_173_0 {L : Nat} {xs : Nat → Int32} : zv 3 141 173 [.ref 211, .int 0] [] (zG 233 11082 zX114 L xs) = zv 3 141 173 [.ref 211, .int 1] [] (zG 233 11082 zX115 L xs) := by
  rw [b141_173, if_pos (by decide), b141_178 (of_decide_eq_true rfl) rfl rfl (of_decide_eq_true rfl) (of_decide_eq_true rfl) rfl]
  exact congrArg (zv 3 141 173 [.ref 211, .int (0 + 1)] []) (zG_wi 230 0 (-4))
def zX116 : Nat → zCe := zU zX115 230 (zci (zX115 230) 1 (-4))
theorem ct141_173_1 {L : Nat} {xs : Nat → Int32} : zv 3 141 173 [.ref 211, .int 1] [] (zG 233 11082 zX115 L xs) = zv 3 141 173 [.ref 211, .int 2] [] (zG 233 11082 zX116 L xs) := by
  rw [b141_173, if_pos (by decide), b141_178 (of_decide_eq_true rfl) rfl rfl (of_decide_eq_true rfl) (of_decide_eq_true rfl) rfl]
  exact congrArg (zv 3 141 173 [.ref 211, .int (1 + 1)] []) (zG_wi 230 1 (-4))
def zX117 : Nat → zCe := zU zX116 230 (zci (zX116 230) 2 (-4))
theorem ct141_173_2 {L : Nat} {xs : Nat → Int32} : zv 3 141 173 [.ref 211, .int 2] [] (zG 233 11082 zX116 L xs) = zv 3 141 173 [.ref 211, .int 3] [] (zG 233 11082 zX117 L xs) := by
  rw [b141_173, if_pos (by decide), b141_178 (of_decide_eq_true rfl) rfl rfl (of_decide_eq_true rfl) (of_decide_eq_true rfl) rfl]
  exact congrArg (zv 3 141 173 [.ref 211, .int (2 + 1)] []) (zG_wi 230 2 (-4))
def zX118 : Nat → zCe := zU zX117 230 (zci (zX117 230) 3 (-4))
theorem ct141_173_3 {L : Nat} {xs : Nat → Int32} : zv 3 141 173 [.ref 211, .int 3] [] (zG 233 11082 zX117 L xs) = zv 3 141 173 [.ref 211, .int 4] [] (zG 233 11082 zX118 L xs) := by
  rw [b141_173, if_pos (by decide), b141_178 (of_decide_eq_true rfl) rfl rfl (of_decide_eq_true rfl) (of_decide_eq_true rfl) rfl]
  exact congrArg (zv 3 141 173 [.ref 211, .int (3 + 1)] []) (zG_wi 230 3 (-4))
theorem ct148_loop {L : Nat} {xs : Nat → Int32} : ∀ d i, i + d = 387 → zv 2 148 2 [.ref 211, .int 3, .int (nI i)] [] (zG 233 11082 zX118 L xs) = zv 2 148 22 [.ref 211, .int 3, .int (nI 387)] [] (zG 233 11082 zX118 L xs) := by
  intro d
  induction d with
  | zero =>
    intro i hi
    have : i = 387 := by omega
    subst this
    rw [b148_2, if_neg (show ¬ nI 387 < 387 from fun q => nI_nlt (Nat.le_refl 387) (by decide) q)]
  | succ d ih =>
    intro i hi
    rw [b148_2, if_pos (show nI i < (387 : Int32) from (show nI i < nI 387 from nI_lt (by omega) (by decide))), b148_9 (of_decide_eq_true rfl) rfl rfl (of_decide_eq_true rfl) (zj_n (N := 387) (by omega) (by decide)) rfl, nI_1, nI_clamp (by omega)]
    exact (congrArg (zv 2 148 2 [.ref 211, .int 3, .int (nI (i + 1))] []) (zG_wi_same 212 i 0 rfl)).trans (ih (i + 1) (by omega))
def zX119 : Nat → zCe := zU zX118 212 (zci (zX118 212) 2 (100))
def zX120 : Nat → zCe := zU zX119 212 (zci (zX119 212) 3 (-4))
def zX121 : Nat → zCe := zU zX120 212 (zci (zX120 212) 312 (1))
def zX122 : Nat → zCe := zU zX121 212 (zci (zX121 212) 314 (3))
theorem ct148 {L : Nat} {xs : Nat → Int32} : zv 2 148 0 [.ref 211, .int 3, .double 0] [] (zG 233 11082 zX118 L xs) = some (none, (zG 233 11082 zX122 L xs)) := by
  have e1 : zv 1 145 0 [.ref 211, .int 0, .int 2, .int 100] [] (zG 233 11082 zX118 L xs) = some (none, (zG 233 11082 zX119 L xs)) := (b145_0 (of_decide_eq_true rfl) rfl rfl (of_decide_eq_true rfl) (of_decide_eq_true rfl) rfl).trans (congrArg (fun q => some (none, q)) (zG_wi 212 2 100))
  have e2 : zv 1 145 0 [.ref 211, .int 0, .int 3, .int (-4)] [] (zG 233 11082 zX119 L xs) = some (none, (zG 233 11082 zX120 L xs)) := (b145_0 (of_decide_eq_true rfl) rfl rfl (of_decide_eq_true rfl) (of_decide_eq_true rfl) rfl).trans (congrArg (fun q => some (none, q)) (zG_wi 212 3 (-4)))
  rw [b148_0, show (0 : Int32) = nI 0 from rfl, ct148_loop 387 0 rfl, b148_22 (of_decide_eq_true rfl) rfl, e1]
  simp only [Option.bind_some, Option.toList_none, List.nil_append]
  rw [b148_30 (of_decide_eq_true rfl) rfl, e2]
  simp only [Option.bind_some, Option.toList_none, List.nil_append]
  rw [b148_38 (of_decide_eq_true rfl) rfl rfl (of_decide_eq_true rfl) (of_decide_eq_true rfl) rfl (of_decide_eq_true rfl) rfl (of_decide_eq_true rfl) (of_decide_eq_true rfl) rfl (of_decide_eq_true rfl)]
  refine congrArg (fun q => some (none, q)) ?_
  show zh_wb (zh_wb (zh_wi (zh_wi (zG 233 11082 zX120 L xs) 212 312 1) 212 314 3) 214 0 false) 214 1 false = _
  rw [zG_wi, zG_wi, zG_wb_same 214 0 false rfl, zG_wb_same 214 1 false rfl]
  rfl
theorem ct141_192 {L : Nat} {xs : Nat → Int32} : zv 3 141 173 [.ref 211, .int 4] [] (zG 233 11082 zX118 L xs) = some (none, (zG 233 11082 zX122 L xs)) := by
  rw [b141_173, if_neg (by decide), b141_192 (of_decide_eq_true rfl) rfl, ct148]
  simp only [Option.bind_some, Option.toList_none, List.nil_append]
  rw [b141_197]
theorem ct141 {L : Nat} {xs : Nat → Int32} : zv 3 141 0 [.ref 211, .double 0] [] (zG 212 6338 zX72 L xs) = some (none, (zG 233 11082 zX122 L xs)) := by
  rw [ct141_0_0, ct141_10_1, ct141_19_2, ct141_26_3, ct141_33_4, ct141_40_5, ct141_47_6, ct141_56_7, ct141_64_8, ct141_72_9, ct141_81_10, ct141_89_11, ct141_97_12, ct141_105_13, ct141_113_14, ct141_121_15, ct141_129_16, ct141_137_17, ct141_145_18, ct141_152_19, ct141_159_20, ct141_168, ct141_173_0, ct141_173_1, ct141_173_2, ct141_173_3, ct141_192]
/-- the fresh memory -/
def zF (L : Nat) (xs : Nat → Int32) : zi_Hp := zG 233 11082 zX122 L xs
def zi_h0 (L : Nat) (xs : Nat → Int32) : zi_Hp := (0, 0, fun _ => (0, 0), fun _ _ => 0, fun _ _ => false, fun _ _ => 0, fun _ _ => .null, L, xs)
theorem ct243 {L : Nat} {xs : Nat → Int32} : zv 18 243 0 [.retAddr 0, .double 0, .double 0, .double 0] [] (zi_h0 L xs) = zv 18 243 18 [.retAddr 0, .ref 0, .ref 211, .int 0] [] (zF L xs) := by
  rw [show zi_h0 L xs = zG 0 0 zX0 L xs from rfl, b243_0, zG_al]
  rw [show zG (0 + 1) (0 + 9) (zU zX0 0 (c00 7 9)) L xs = zG 1 9 zX1 L xs from rfl, show zh_n (zG 0 0 zX0 L xs) = 0 from rfl, b243_3, ct104]
  simp only [Option.bind_some, Option.toList_none, List.nil_append]
  rw [b243_7, zG_al, b243_11]
  rw [show zv 3 141 0 [.ref (zh_n (zG 211 6299 zX71 L xs)), .double 0] [] (zG (211 + 1) (6299 + 39) (zU zX71 211 (c00 8 39)) L xs) = some (none, (zG 233 11082 zX122 L xs)) from ct141]
  simp only [Option.bind_some, Option.toList_none, List.nil_append]
  rw [b243_15]
  rfl
