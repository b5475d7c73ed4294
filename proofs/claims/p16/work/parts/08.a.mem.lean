/-- a row of ints with v in its first n places -/
def zh_fi (h : zi_Hp) (a n : Nat) (v : Int32) : zi_Hp := (zh_n h, zh_s h, zh_k h, fun b j => if b = a ∧ j < n then v else zh_i h b j, zh_b h, zh_l h, zh_r h, zh_L h, zh_x h)
theorem hp_n_wi (h : zi_Hp) (a k : Nat) (v : Int32)  : zh_n (zh_wi h a k v)  = zh_n h  := Eq.trans rfl rfl
theorem hp_s_wi (h : zi_Hp) (a k : Nat) (v : Int32)  : zh_s (zh_wi h a k v)  = zh_s h  := Eq.trans rfl rfl
theorem hp_k_wi (h : zi_Hp) (a k : Nat) (v : Int32) (b : Nat) : zh_k (zh_wi h a k v) b = zh_k h b := Eq.trans rfl rfl
theorem hp_i_wi (h : zi_Hp) (a k : Nat) (v : Int32) (b j : Nat) : zh_i (zh_wi h a k v) b j = if b = a ∧ j = k then v else zh_i h b j := Eq.trans rfl rfl
theorem hp_b_wi (h : zi_Hp) (a k : Nat) (v : Int32) (b j : Nat) : zh_b (zh_wi h a k v) b j = zh_b h b j := Eq.trans rfl rfl
theorem hp_l_wi (h : zi_Hp) (a k : Nat) (v : Int32) (b j : Nat) : zh_l (zh_wi h a k v) b j = zh_l h b j := Eq.trans rfl rfl
theorem hp_r_wi (h : zi_Hp) (a k : Nat) (v : Int32) (b j : Nat) : zh_r (zh_wi h a k v) b j = zh_r h b j := Eq.trans rfl rfl
theorem hp_L_wi (h : zi_Hp) (a k : Nat) (v : Int32)  : zh_L (zh_wi h a k v)  = zh_L h  := Eq.trans rfl rfl
theorem hp_x_wi (h : zi_Hp) (a k : Nat) (v : Int32)  : zh_x (zh_wi h a k v)  = zh_x h  := Eq.trans rfl rfl
theorem hp_n_wb (h : zi_Hp) (a k : Nat) (v : Bool)  : zh_n (zh_wb h a k v)  = zh_n h  := Eq.trans rfl rfl
theorem hp_s_wb (h : zi_Hp) (a k : Nat) (v : Bool)  : zh_s (zh_wb h a k v)  = zh_s h  := Eq.trans rfl rfl
theorem hp_k_wb (h : zi_Hp) (a k : Nat) (v : Bool) (b : Nat) : zh_k (zh_wb h a k v) b = zh_k h b := Eq.trans rfl rfl
theorem hp_i_wb (h : zi_Hp) (a k : Nat) (v : Bool) (b j : Nat) : zh_i (zh_wb h a k v) b j = zh_i h b j := Eq.trans rfl rfl
theorem hp_b_wb (h : zi_Hp) (a k : Nat) (v : Bool) (b j : Nat) : zh_b (zh_wb h a k v) b j = if b = a ∧ j = k then v else zh_b h b j := Eq.trans rfl rfl
theorem hp_l_wb (h : zi_Hp) (a k : Nat) (v : Bool) (b j : Nat) : zh_l (zh_wb h a k v) b j = zh_l h b j := Eq.trans rfl rfl
theorem hp_r_wb (h : zi_Hp) (a k : Nat) (v : Bool) (b j : Nat) : zh_r (zh_wb h a k v) b j = zh_r h b j := Eq.trans rfl rfl
theorem hp_L_wb (h : zi_Hp) (a k : Nat) (v : Bool)  : zh_L (zh_wb h a k v)  = zh_L h  := Eq.trans rfl rfl
theorem hp_x_wb (h : zi_Hp) (a k : Nat) (v : Bool)  : zh_x (zh_wb h a k v)  = zh_x h  := Eq.trans rfl rfl
theorem hp_n_wl (h : zi_Hp) (a k : Nat) (v : Int64)  : zh_n (zh_wl h a k v)  = zh_n h  := Eq.trans rfl rfl
theorem hp_s_wl (h : zi_Hp) (a k : Nat) (v : Int64)  : zh_s (zh_wl h a k v)  = zh_s h  := Eq.trans rfl rfl
theorem hp_k_wl (h : zi_Hp) (a k : Nat) (v : Int64) (b : Nat) : zh_k (zh_wl h a k v) b = zh_k h b := Eq.trans rfl rfl
theorem hp_i_wl (h : zi_Hp) (a k : Nat) (v : Int64) (b j : Nat) : zh_i (zh_wl h a k v) b j = zh_i h b j := Eq.trans rfl rfl
theorem hp_b_wl (h : zi_Hp) (a k : Nat) (v : Int64) (b j : Nat) : zh_b (zh_wl h a k v) b j = zh_b h b j := Eq.trans rfl rfl
theorem hp_l_wl (h : zi_Hp) (a k : Nat) (v : Int64) (b j : Nat) : zh_l (zh_wl h a k v) b j = if b = a ∧ j = k then v else zh_l h b j := Eq.trans rfl rfl
theorem hp_r_wl (h : zi_Hp) (a k : Nat) (v : Int64) (b j : Nat) : zh_r (zh_wl h a k v) b j = zh_r h b j := Eq.trans rfl rfl
theorem hp_L_wl (h : zi_Hp) (a k : Nat) (v : Int64)  : zh_L (zh_wl h a k v)  = zh_L h  := Eq.trans rfl rfl
theorem hp_x_wl (h : zi_Hp) (a k : Nat) (v : Int64)  : zh_x (zh_wl h a k v)  = zh_x h  := Eq.trans rfl rfl
theorem hp_n_wr (h : zi_Hp) (a k : Nat) (v : Value)  : zh_n (zh_wr h a k v)  = zh_n h  := Eq.trans rfl rfl
theorem hp_s_wr (h : zi_Hp) (a k : Nat) (v : Value)  : zh_s (zh_wr h a k v)  = zh_s h  := Eq.trans rfl rfl
theorem hp_k_wr (h : zi_Hp) (a k : Nat) (v : Value) (b : Nat) : zh_k (zh_wr h a k v) b = zh_k h b := Eq.trans rfl rfl
theorem hp_i_wr (h : zi_Hp) (a k : Nat) (v : Value) (b j : Nat) : zh_i (zh_wr h a k v) b j = zh_i h b j := Eq.trans rfl rfl
theorem hp_b_wr (h : zi_Hp) (a k : Nat) (v : Value) (b j : Nat) : zh_b (zh_wr h a k v) b j = zh_b h b j := Eq.trans rfl rfl
theorem hp_l_wr (h : zi_Hp) (a k : Nat) (v : Value) (b j : Nat) : zh_l (zh_wr h a k v) b j = zh_l h b j := Eq.trans rfl rfl
theorem hp_r_wr (h : zi_Hp) (a k : Nat) (v : Value) (b j : Nat) : zh_r (zh_wr h a k v) b j = if b = a ∧ j = k then v else zh_r h b j := Eq.trans rfl rfl
theorem hp_L_wr (h : zi_Hp) (a k : Nat) (v : Value)  : zh_L (zh_wr h a k v)  = zh_L h  := Eq.trans rfl rfl
theorem hp_x_wr (h : zi_Hp) (a k : Nat) (v : Value)  : zh_x (zh_wr h a k v)  = zh_x h  := Eq.trans rfl rfl
theorem hp_n_ci (h : zi_Hp) (s sp d dp n : Nat)  : zh_n (zh_ci h s sp d dp n)  = zh_n h  := Eq.trans rfl rfl
theorem hp_s_ci (h : zi_Hp) (s sp d dp n : Nat)  : zh_s (zh_ci h s sp d dp n)  = zh_s h  := Eq.trans rfl rfl
theorem hp_k_ci (h : zi_Hp) (s sp d dp n : Nat) (b : Nat) : zh_k (zh_ci h s sp d dp n) b = zh_k h b := Eq.trans rfl rfl
theorem hp_i_ci (h : zi_Hp) (s sp d dp n : Nat) (b j : Nat) : zh_i (zh_ci h s sp d dp n) b j = if b = d ∧ dp ≤ j ∧ j < dp + n then zh_i h s (sp + (j - dp)) else zh_i h b j := Eq.trans rfl rfl
theorem hp_b_ci (h : zi_Hp) (s sp d dp n : Nat) (b j : Nat) : zh_b (zh_ci h s sp d dp n) b j = zh_b h b j := Eq.trans rfl rfl
theorem hp_l_ci (h : zi_Hp) (s sp d dp n : Nat) (b j : Nat) : zh_l (zh_ci h s sp d dp n) b j = zh_l h b j := Eq.trans rfl rfl
theorem hp_r_ci (h : zi_Hp) (s sp d dp n : Nat) (b j : Nat) : zh_r (zh_ci h s sp d dp n) b j = zh_r h b j := Eq.trans rfl rfl
theorem hp_L_ci (h : zi_Hp) (s sp d dp n : Nat)  : zh_L (zh_ci h s sp d dp n)  = zh_L h  := Eq.trans rfl rfl
theorem hp_x_ci (h : zi_Hp) (s sp d dp n : Nat)  : zh_x (zh_ci h s sp d dp n)  = zh_x h  := Eq.trans rfl rfl
theorem hp_n_cb (h : zi_Hp) (s sp d dp n : Nat)  : zh_n (zh_cb h s sp d dp n)  = zh_n h  := Eq.trans rfl rfl
theorem hp_s_cb (h : zi_Hp) (s sp d dp n : Nat)  : zh_s (zh_cb h s sp d dp n)  = zh_s h  := Eq.trans rfl rfl
theorem hp_k_cb (h : zi_Hp) (s sp d dp n : Nat) (b : Nat) : zh_k (zh_cb h s sp d dp n) b = zh_k h b := Eq.trans rfl rfl
theorem hp_i_cb (h : zi_Hp) (s sp d dp n : Nat) (b j : Nat) : zh_i (zh_cb h s sp d dp n) b j = zh_i h b j := Eq.trans rfl rfl
theorem hp_b_cb (h : zi_Hp) (s sp d dp n : Nat) (b j : Nat) : zh_b (zh_cb h s sp d dp n) b j = if b = d ∧ dp ≤ j ∧ j < dp + n then zh_b h s (sp + (j - dp)) else zh_b h b j := Eq.trans rfl rfl
theorem hp_l_cb (h : zi_Hp) (s sp d dp n : Nat) (b j : Nat) : zh_l (zh_cb h s sp d dp n) b j = zh_l h b j := Eq.trans rfl rfl
theorem hp_r_cb (h : zi_Hp) (s sp d dp n : Nat) (b j : Nat) : zh_r (zh_cb h s sp d dp n) b j = zh_r h b j := Eq.trans rfl rfl
theorem hp_L_cb (h : zi_Hp) (s sp d dp n : Nat)  : zh_L (zh_cb h s sp d dp n)  = zh_L h  := Eq.trans rfl rfl
theorem hp_x_cb (h : zi_Hp) (s sp d dp n : Nat)  : zh_x (zh_cb h s sp d dp n)  = zh_x h  := Eq.trans rfl rfl
theorem hp_n_al (h : zi_Hp) (kd len : Nat)  : zh_n (zh_al h kd len)  = zh_n h + 1 := Eq.trans rfl rfl
theorem hp_s_al (h : zi_Hp) (kd len : Nat)  : zh_s (zh_al h kd len)  = zh_s h + len := Eq.trans rfl rfl
theorem hp_k_al (h : zi_Hp) (kd len : Nat) (b : Nat) : zh_k (zh_al h kd len) b = if b = zh_n h then (kd, len) else zh_k h b := Eq.trans rfl rfl
theorem hp_i_al (h : zi_Hp) (kd len : Nat) (b j : Nat) : zh_i (zh_al h kd len) b j = if b = zh_n h then 0 else zh_i h b j := Eq.trans rfl rfl
theorem hp_b_al (h : zi_Hp) (kd len : Nat) (b j : Nat) : zh_b (zh_al h kd len) b j = if b = zh_n h then false else zh_b h b j := Eq.trans rfl rfl
theorem hp_l_al (h : zi_Hp) (kd len : Nat) (b j : Nat) : zh_l (zh_al h kd len) b j = if b = zh_n h then 0 else zh_l h b j := Eq.trans rfl rfl
theorem hp_r_al (h : zi_Hp) (kd len : Nat) (b j : Nat) : zh_r (zh_al h kd len) b j = if b = zh_n h then .null else zh_r h b j := Eq.trans rfl rfl
theorem hp_L_al (h : zi_Hp) (kd len : Nat)  : zh_L (zh_al h kd len)  = zh_L h  := Eq.trans rfl rfl
theorem hp_x_al (h : zi_Hp) (kd len : Nat)  : zh_x (zh_al h kd len)  = zh_x h  := Eq.trans rfl rfl
theorem hp_n_mn (h : zi_Hp) (N K : Nat)  : zh_n (zh_mn h N K)  = zh_n h + 1 + N := Eq.trans rfl rfl
theorem hp_s_mn (h : zi_Hp) (N K : Nat)  : zh_s (zh_mn h N K)  = zh_s h + N + N * K := Eq.trans rfl rfl
theorem hp_k_mn (h : zi_Hp) (N K : Nat) (b : Nat) : zh_k (zh_mn h N K) b = if b = zh_n h then (105, N) else if zh_n h < b ∧ b ≤ zh_n h + N then (100, K) else zh_k h b := Eq.trans rfl rfl
theorem hp_i_mn (h : zi_Hp) (N K : Nat) (b j : Nat) : zh_i (zh_mn h N K) b j = if zh_n h ≤ b ∧ b ≤ zh_n h + N then 0 else zh_i h b j := Eq.trans rfl rfl
theorem hp_b_mn (h : zi_Hp) (N K : Nat) (b j : Nat) : zh_b (zh_mn h N K) b j = zh_b h b j := Eq.trans rfl rfl
theorem hp_l_mn (h : zi_Hp) (N K : Nat) (b j : Nat) : zh_l (zh_mn h N K) b j = zh_l h b j := Eq.trans rfl rfl
theorem hp_r_mn (h : zi_Hp) (N K : Nat) (b j : Nat) : zh_r (zh_mn h N K) b j = if b = zh_n h then .ref (zh_n h + 1 + j) else zh_r h b j := Eq.trans rfl rfl
theorem hp_L_mn (h : zi_Hp) (N K : Nat)  : zh_L (zh_mn h N K)  = zh_L h  := Eq.trans rfl rfl
theorem hp_x_mn (h : zi_Hp) (N K : Nat)  : zh_x (zh_mn h N K)  = zh_x h  := Eq.trans rfl rfl
theorem hp_n_fi (h : zi_Hp) (a n : Nat) (v : Int32)  : zh_n (zh_fi h a n v)  = zh_n h  := Eq.trans rfl rfl
theorem hp_s_fi (h : zi_Hp) (a n : Nat) (v : Int32)  : zh_s (zh_fi h a n v)  = zh_s h  := Eq.trans rfl rfl
theorem hp_k_fi (h : zi_Hp) (a n : Nat) (v : Int32) (b : Nat) : zh_k (zh_fi h a n v) b = zh_k h b := Eq.trans rfl rfl
theorem hp_i_fi (h : zi_Hp) (a n : Nat) (v : Int32) (b j : Nat) : zh_i (zh_fi h a n v) b j = if b = a ∧ j < n then v else zh_i h b j := Eq.trans rfl rfl
theorem hp_b_fi (h : zi_Hp) (a n : Nat) (v : Int32) (b j : Nat) : zh_b (zh_fi h a n v) b j = zh_b h b j := Eq.trans rfl rfl
theorem hp_l_fi (h : zi_Hp) (a n : Nat) (v : Int32) (b j : Nat) : zh_l (zh_fi h a n v) b j = zh_l h b j := Eq.trans rfl rfl
theorem hp_r_fi (h : zi_Hp) (a n : Nat) (v : Int32) (b j : Nat) : zh_r (zh_fi h a n v) b j = zh_r h b j := Eq.trans rfl rfl
theorem hp_L_fi (h : zi_Hp) (a n : Nat) (v : Int32)  : zh_L (zh_fi h a n v)  = zh_L h  := Eq.trans rfl rfl
theorem hp_x_fi (h : zi_Hp) (a n : Nat) (v : Int32)  : zh_x (zh_fi h a n v)  = zh_x h  := Eq.trans rfl rfl
theorem zh_ext {h g : zi_Hp} (e1 : zh_n h = zh_n g) (e2 : zh_s h = zh_s g) (e3 : ∀ b, zh_k h b = zh_k g b) (e4 : ∀ b j, zh_i h b j = zh_i g b j) (e5 : ∀ b j, zh_b h b j = zh_b g b j) (e6 : ∀ b j, zh_l h b j = zh_l g b j) (e7 : ∀ b j, zh_r h b j = zh_r g b j) (e8 : zh_L h = zh_L g) (e9 : zh_x h = zh_x g) : h = g := by
  obtain ⟨h1, h2, h3, h4, h5, h6, h7, h8, h9⟩ := h
  obtain ⟨g1, g2, g3, g4, g5, g6, g7, g8, g9⟩ := g
  have t3 : h3 = g3 := funext e3
  have t4 : h4 = g4 := funext fun b => funext (e4 b)
  have t5 : h5 = g5 := funext fun b => funext (e5 b)
  have t6 : h6 = g6 := funext fun b => funext (e6 b)
  have t7 : h7 = g7 := funext fun b => funext (e7 b)
  have t1 : h1 = g1 := e1
  have t2 : h2 = g2 := e2
  have t8 : h8 = g8 := e8
  have t9 : h9 = g9 := e9
  subst t1; subst t2; subst t3; subst t4; subst t5; subst t6; subst t7; subst t8; subst t9
  rfl
theorem zq_rf (q : Nat) : zq (.ref q) = q := Eq.trans rfl rfl
theorem zh_fi_s (h : zi_Hp) (a n : Nat) (v : Int32) : zh_wi (zh_fi h a n v) a n v = zh_fi h a (n + 1) v := by
  refine zh_ext rfl rfl (fun _ => rfl) (fun b j => ?_) (fun _ _ => rfl) (fun _ _ => rfl) (fun _ _ => rfl) rfl rfl
  rw [hp_i_wi, hp_i_fi, hp_i_fi]
  by_cases hb : b = a
  · subst hb
    by_cases h1 : j = n
    · subst h1; rw [if_pos ⟨rfl, rfl⟩, if_pos ⟨rfl, by omega⟩]
    · rw [if_neg (fun q => h1 q.2)]
      by_cases h2 : j < n
      · rw [if_pos ⟨rfl, h2⟩, if_pos ⟨rfl, by omega⟩]
      · rw [if_neg (fun q => h2 q.2), if_neg (fun q => h2 (by have := q.2; omega))]
  · rw [if_neg (fun q => hb q.1), if_neg (fun q => hb q.1), if_neg (fun q => hb q.1)]
theorem zh_fi_0 (h : zi_Hp) (a : Nat) (v : Int32) : zh_fi h a 0 v = h := by
  refine zh_ext rfl rfl (fun _ => rfl) (fun b j => ?_) (fun _ _ => rfl) (fun _ _ => rfl) (fun _ _ => rfl) rfl rfl
  rw [hp_i_fi, if_neg (fun q => absurd q.2 (Nat.not_lt_zero j))]
/-- a counter in its row -/
theorem zj_n {n N : Nat} (h : n < N) (hN : N < 2 ^ 31) : ¬ (nI n < 0 ∨ N ≤ (nI n).toNatClampNeg) := nI_in h hN
/-- java.util.Arrays.fill -/
theorem c_fill {h : zi_Hp} {a N : Nat} {v : Int32} (ha : a < zh_n h) (hk : zh_k h a = (100, N)) (hN : N < 2 ^ 31) : zv 1 241 0 [.ref a, .int v, .double 0, .double 0] [] h = some (none, zh_fi h a N v) := by
  have loop : ∀ d i, i + d = N → zv 1 241 5 [.ref a, .int v, .int (nI i), .int (Int32.ofNat N)] [] (zh_fi h a i v) = some (none, zh_fi h a N v) := by
    intro d
    induction d with
    | zero =>
      intro i hi
      have : i = N := by omega
      subst this
      rw [b241_5, if_neg (show ¬ nI i < Int32.ofNat i from fun q => nI_nlt (Nat.le_refl i) hN q)]
      exact b241_20
    | succ d ih =>
      intro i hi
      rw [b241_5, if_pos (show nI i < Int32.ofNat N from nI_lt (by omega) hN)]
      have e : zv 1 241 10 [.ref a, .int v, .int (nI i), .int (Int32.ofNat N)] [] (zh_fi h a i v) = zv 1 241 5 [.ref a, .int v, .int (nI i + 1), .int (Int32.ofNat N)] [] (zh_wi (zh_fi h a i v) a (nI i).toNatClampNeg v) := b241_10 ha (by show ¬ (_ ∨ (zh_k h a).2 ≤ _); rw [hk]; exact zj_n (by omega) hN) (by show (zh_k h a).1 = 100; rw [hk])
      rw [e, nI_clamp (by omega), zh_fi_s, nI_1]
      exact ih (i + 1) (by omega)
  have e : zv 1 241 0 [.ref a, .int v, .double 0, .double 0] [] h = zv 1 241 5 [.ref a, .int v, .int 0, .int (Int32.ofNat (zh_k h a).2)] [] h := b241_0 (by rw [hk]; exact ⟨by show 100 ≤ 100; decide, by show 100 < 106; decide⟩) ha
  rw [e, hk]
  have := loop N 0 (by omega)
  rw [zh_fi_0] at this
  exact this
