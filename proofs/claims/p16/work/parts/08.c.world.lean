theorem zc_wr_ne (h : zi_Hp) (a k : Nat) (v : Value) (b : Nat) (hb : b ≠ a) : zc (zh_wr h a k v) b = zc h b := zc_ext rfl (fun _ => rfl) (fun _ => rfl) (fun _ => rfl) (fun j => by rw [hp_r_wr, if_neg (fun q => hb q.1)])
theorem zc_wr (h : zi_Hp) (a k : Nat) (v : Value) : zc (zh_wr h a k v) a = (zh_k h a, zh_i h a, zh_b h a, zh_l h a, fun j => if j = k then v else zh_r h a j) := zc_ext rfl (fun _ => rfl) (fun _ => rfl) (fun _ => rfl) (fun j => by
  rw [hp_r_wr]
  by_cases e : j = k
  · rw [if_pos ⟨rfl, e⟩, if_pos e]
  · rw [if_neg (fun q => e q.2), if_neg e])
def cW (w : Nat) (c : Nat) : (Nat × Nat) × (Nat → Int32) × (Nat → Bool) × (Nat → Int64) × (Nat → Value) :=
  if c = 0 then ((6, 2), fun _ => 0, fun _ => false, fun _ => 0, fun j => if j = 1 then .ref (w + 9) else if j = 0 then .ref (w + 1) else .null)
  else if c < 9 then cT (w + 1) (c - 1)
  else if c = 9 then ((104, 3), fun _ => 0, fun _ => false, fun _ => 0, fun j => if j = 2 then .ref (w + 14) else if j = 1 then .ref (w + 12) else if j = 0 then .ref (w + 10) else .null)
  else if c < 12 then cC (w + 10) (c - 10)
  else if c < 14 then cC (w + 12) (c - 12)
  else cC (w + 14) (c - 14)
set_option maxHeartbeats 4000000 in
theorem c_World {h : zi_Hp} {w : Nat} (hn : zh_n h = w + 1) (hc : zc h w = c00 6 2) : ∃ g, zv 4 74 0 [.ref w] [] h = some (none, g) ∧ zh_n g = w + 16 ∧ zh_s g = zh_s h + 484 ∧ (∀ c, c < 16 → zc g (w + c) = cW w c) ∧ (∀ b, b < w ∨ w + 16 ≤ b → zc g b = zc h b) ∧ zh_L g = zh_L h ∧ zh_x g = zh_x h := by
  -- the tree
  obtain ⟨g1, e1, n1, s1, t1, f1, L1, x1⟩ := c_Tree (h := zh_al h 4 10) (t := w + 1) (by rw [hp_n_al, hn]) (by rw [← hn]; exact zc_al _ _ _)
  rw [hp_s_al] at s1
  have n1 : zh_n g1 = w + 9 := by rw [n1]
  have w1 : zc g1 w = c00 6 2 := by rw [f1 w (by omega), zc_al_ne _ _ _ _ (by omega)]; exact hc
  have o1 : ∀ b, b < w ∨ w + 9 ≤ b → zc g1 b = zc h b := fun b hb => by rw [f1 b (by omega), zc_al_ne _ _ _ _ (by omega)]
  -- the row of clients, the first client
  obtain ⟨g2, hg2⟩ : ∃ q, q = zh_al (zh_wr g1 w 0 (.ref (w + 1))) 104 3 := ⟨_, rfl⟩
  have n2 : zh_n g2 = w + 10 := by rw [hg2, hp_n_al, hp_n_wr, n1]
  have s2 : zh_s g2 = zh_s h + 373 := by rw [hg2, hp_s_al, hp_s_wr, s1]
  have c2 : zc g2 (w + 9) = c00 104 3 := by rw [hg2, show w + 9 = zh_n (zh_wr g1 w 0 (.ref (w + 1))) by rw [hp_n_wr, n1]]; exact zc_al _ _ _
  have k2 : ∀ b, b ≠ w + 9 → zc g2 b = zc (zh_wr g1 w 0 (.ref (w + 1))) b := fun b hb => by rw [hg2, zc_al_ne _ _ _ _ (by rw [hp_n_wr, n1]; exact hb)]
  obtain ⟨g3, e3, n3, s3, a3, b3, f3, L3, x3⟩ := c_Client2 (h := zh_al g2 0 13) (a := w + 10) (by rw [hp_n_al, n2]) (by rw [← n2]; exact zc_al _ _ _)
  rw [hp_s_al, s2] at s3
  have k3 : ∀ b, b < w + 10 ∨ w + 12 ≤ b → zc g3 b = zc g2 b := fun b hb => by rw [f3 b hb, zc_al_ne _ _ _ _ (by omega)]
  -- the second
  obtain ⟨g4, hg4⟩ : ∃ q, q = zh_al (zh_wr g3 (w + 9) 0 (.ref (w + 10))) 0 13 := ⟨_, rfl⟩
  have n4 : zh_n g4 = w + 13 := by rw [hg4, hp_n_al, hp_n_wr, n3]
  have s4 : zh_s g4 = zh_s h + 423 := by rw [hg4, hp_s_al, hp_s_wr, s3]
  have k4 : ∀ b, b ≠ w + 12 → zc g4 b = zc (zh_wr g3 (w + 9) 0 (.ref (w + 10))) b := fun b hb => by rw [hg4, zc_al_ne _ _ _ _ (by rw [hp_n_wr, n3]; exact hb)]
  obtain ⟨g5, e5, n5, s5, a5, b5, f5, L5, x5⟩ := c_Client2 (h := g4) (a := w + 12) n4 (by rw [hg4, show w + 12 = zh_n (zh_wr g3 (w + 9) 0 (.ref (w + 10))) by rw [hp_n_wr, n3]]; exact zc_al _ _ _)
  rw [s4] at s5
  -- the third
  obtain ⟨g6, hg6⟩ : ∃ q, q = zh_al (zh_wr g5 (w + 9) 1 (.ref (w + 12))) 0 13 := ⟨_, rfl⟩
  have n6 : zh_n g6 = w + 15 := by rw [hg6, hp_n_al, hp_n_wr, n5]
  have s6 : zh_s g6 = zh_s h + 460 := by rw [hg6, hp_s_al, hp_s_wr, s5]
  have k6 : ∀ b, b ≠ w + 14 → zc g6 b = zc (zh_wr g5 (w + 9) 1 (.ref (w + 12))) b := fun b hb => by rw [hg6, zc_al_ne _ _ _ _ (by rw [hp_n_wr, n5]; exact hb)]
  obtain ⟨g7, e7, n7, s7, a7, b7, f7, L7, x7⟩ := c_Client2 (h := g6) (a := w + 14) n6 (by rw [hg6, show w + 14 = zh_n (zh_wr g5 (w + 9) 1 (.ref (w + 12))) by rw [hp_n_wr, n5]]; exact zc_al _ _ _)
  rw [s6] at s7
  -- cells that stay
  have q3 : ∀ b, b < w + 9 ∨ w + 12 ≤ b → b ≠ w → zc g3 b = zc g1 b := fun b h1 h2 => by rw [k3 b (by omega), k2 b (by omega), zc_wr_ne _ _ _ _ _ h2]
  have q5 : ∀ b, b < w + 12 ∨ w + 14 ≤ b → b ≠ w + 9 → zc g5 b = zc g3 b := fun b h1 h2 => by rw [f5 b h1, k4 b (by omega), zc_wr_ne _ _ _ _ _ h2]
  have q7 : ∀ b, b < w + 14 ∨ w + 16 ≤ b → b ≠ w + 9 → zc g7 b = zc g5 b := fun b h1 h2 => by rw [f7 b h1, k6 b (by omega), zc_wr_ne _ _ _ _ _ h2]
  have w3 : zc g3 w = ((6, 2), fun _ => 0, fun _ => false, fun _ => 0, fun j => if j = 0 then .ref (w + 1) else .null) := by
    obtain ⟨u1, u2, u3, u4, u5⟩ := zc00 w1
    rw [k3 w (by omega), k2 w (by omega), zc_wr, u1, show zh_i g1 w = fun _ => 0 from funext u2, show zh_b g1 w = fun _ => false from funext u3, show zh_l g1 w = fun _ => 0 from funext u4]
    simp only [u5]
  have w7 : zc g7 w = ((6, 2), fun _ => 0, fun _ => false, fun _ => 0, fun j => if j = 0 then .ref (w + 1) else .null) := by rw [q7 w (by omega) (by omega), q5 w (by omega) (by omega)]; exact w3
  have r3 : zc g3 (w + 9) = c00 104 3 := by rw [k3 _ (by omega)]; exact c2
  have r5 : zc g5 (w + 9) = ((104, 3), fun _ => 0, fun _ => false, fun _ => 0, fun j => if j = 0 then .ref (w + 10) else .null) := by
    obtain ⟨u1, u2, u3, u4, u5⟩ := zc00 r3
    rw [f5 _ (by omega), k4 _ (by omega), zc_wr, u1, show zh_i g3 (w + 9) = fun _ => 0 from funext u2, show zh_b g3 (w + 9) = fun _ => false from funext u3, show zh_l g3 (w + 9) = fun _ => 0 from funext u4]
    simp only [u5]
  have r7 : zc g7 (w + 9) = ((104, 3), fun _ => 0, fun _ => false, fun _ => 0, fun j => if j = 1 then .ref (w + 12) else if j = 0 then .ref (w + 10) else .null) := by
    rw [f7 _ (by omega), k6 _ (by omega), zc_wr]
    have u1 : zh_k g5 (w + 9) = (104, 3) := congrArg (fun q => q.1) r5
    have u2 : zh_i g5 (w + 9) = fun _ => 0 := congrArg (fun q => q.2.1) r5
    have u3 : zh_b g5 (w + 9) = fun _ => false := congrArg (fun q => q.2.2.1) r5
    have u4 : zh_l g5 (w + 9) = fun _ => 0 := congrArg (fun q => q.2.2.2.1) r5
    have u5 : zh_r g5 (w + 9) = fun j => if j = 0 then .ref (w + 10) else .null := congrArg (fun q => q.2.2.2.2) r5
    rw [u1, u2, u3, u4, u5]
  -- the end
  obtain ⟨g8, hg8⟩ : ∃ q, q = zh_wr (zh_wr g7 (w + 9) 2 (.ref (w + 14))) w 1 (.ref (w + 9)) := ⟨_, rfl⟩
  have hk1 : zh_k g1 w = (6, 2) := congrArg (fun q => q.1) w1
  have hk9 : ∀ g : zi_Hp, ∀ q, zc g (w + 9) = q → zh_k g (w + 9) = q.1 := fun g q e => congrArg (fun q => q.1) e
  have hkc : ∀ g : zi_Hp, ∀ a q, zc g a = q → zh_k g a = q.1 := fun g a q e => congrArg (fun q => q.1) e
  have run : zv 4 74 0 [.ref w] [] h = some (none, g8) := by
    rw [b74_0, b74_8, hn, e1]
    simp only [Option.bind_some, Option.toList_none, List.nil_append]
    rw [b74_12 (by rw [n1]; omega) (by rw [hk1]), n1, hg2.symm, b74_20, n2, b74_25, e3]
    simp only [Option.bind_some, Option.toList_none, List.nil_append]
    rw [b74_29 (by rw [n3]; omega) (by rw [show zh_k g3 (w + 9) = (104, 3) from hkc _ _ _ r3]; decide) (by rw [show zh_k g3 (w + 9) = (104, 3) from hkc _ _ _ r3]; decide) (by rw [n3]; omega) (by rw [hkc _ _ _ r3, hkc _ _ _ a3]; rfl), n3, show (0 : Int32).toNatClampNeg = 0 from rfl, hg4.symm, b74_35, e5]
    simp only [Option.bind_some, Option.toList_none, List.nil_append]
    rw [b74_39 (by rw [n5]; omega) (by rw [show zh_k g5 (w + 9) = (104, 3) from hkc _ _ _ r5]; decide) (by rw [show zh_k g5 (w + 9) = (104, 3) from hkc _ _ _ r5]; decide) (by rw [n5]; omega) (by rw [hkc _ _ _ r5, hkc _ _ _ a5]; rfl), n5, show (1 : Int32).toNatClampNeg = 1 from rfl, hg6.symm, b74_45, e7]
    simp only [Option.bind_some, Option.toList_none, List.nil_append]
    rw [b74_49 (by rw [n7]; omega) (by rw [show zh_k g7 (w + 9) = (104, 3) from hkc _ _ _ r7]; decide) (by rw [show zh_k g7 (w + 9) = (104, 3) from hkc _ _ _ r7]; decide) (by rw [n7]; omega) (by rw [hkc _ _ _ r7, hkc _ _ _ a7]; rfl) (by rw [n7]; omega) (by rw [hkc _ _ _ w7]), show (2 : Int32).toNatClampNeg = 2 from rfl, hg8.symm]
  have k8 : ∀ b, b ≠ w → b ≠ w + 9 → zc g8 b = zc g7 b := fun b h1 h2 => by rw [hg8, zc_wr_ne _ _ _ _ _ h1, zc_wr_ne _ _ _ _ _ h2]
  refine ⟨g8, run, by rw [hg8, hp_n_wr, hp_n_wr, n7], by rw [hg8, hp_s_wr, hp_s_wr, s7], fun c hc16 => ?_, fun b hb => ?_, by rw [hg8, hp_L_wr, hp_L_wr, L7, hg6, hp_L_al, hp_L_wr, L5, hg4, hp_L_al, hp_L_wr, L3, hp_L_al, hg2, hp_L_al, hp_L_wr, L1, hp_L_al], by rw [hg8, hp_x_wr, hp_x_wr, x7, hg6, hp_x_al, hp_x_wr, x5, hg4, hp_x_al, hp_x_wr, x3, hp_x_al, hg2, hp_x_al, hp_x_wr, x1, hp_x_al]⟩
  · by_cases h0 : c = 0
    · subst h0
      rw [hg8]
      show zc (zh_wr (zh_wr g7 (w + 9) 2 (.ref (w + 14))) w 1 (.ref (w + 9))) w = _
      rw [zc_wr]
      have u := zc_wr_ne g7 (w + 9) 2 (.ref (w + 14)) w (by omega)
      rw [w7] at u
      have u1 : zh_k (zh_wr g7 (w + 9) 2 (.ref (w + 14))) w = (6, 2) := congrArg (fun q => q.1) u
      have u2 : zh_i (zh_wr g7 (w + 9) 2 (.ref (w + 14))) w = fun _ => 0 := congrArg (fun q => q.2.1) u
      have u3 : zh_b (zh_wr g7 (w + 9) 2 (.ref (w + 14))) w = fun _ => false := congrArg (fun q => q.2.2.1) u
      have u4 : zh_l (zh_wr g7 (w + 9) 2 (.ref (w + 14))) w = fun _ => 0 := congrArg (fun q => q.2.2.2.1) u
      have u5 : zh_r (zh_wr g7 (w + 9) 2 (.ref (w + 14))) w = fun j => if j = 0 then .ref (w + 1) else .null := congrArg (fun q => q.2.2.2.2) u
      rw [u1, u2, u3, u4, u5]
      rfl
    · by_cases h9 : c = 9
      · subst h9
        rw [hg8, zc_wr_ne _ _ _ _ _ (by omega), zc_wr]
        have u1 : zh_k g7 (w + 9) = (104, 3) := congrArg (fun q => q.1) r7
        have u2 : zh_i g7 (w + 9) = fun _ => 0 := congrArg (fun q => q.2.1) r7
        have u3 : zh_b g7 (w + 9) = fun _ => false := congrArg (fun q => q.2.2.1) r7
        have u4 : zh_l g7 (w + 9) = fun _ => 0 := congrArg (fun q => q.2.2.2.1) r7
        have u5 : zh_r g7 (w + 9) = fun j => if j = 1 then .ref (w + 12) else if j = 0 then .ref (w + 10) else .null := congrArg (fun q => q.2.2.2.2) r7
        rw [u1, u2, u3, u4, u5]
        rfl
      · rw [k8 _ (by omega) (by omega)]
        unfold cW
        rw [if_neg h0]
        by_cases c9 : c < 9
        · rw [if_pos c9, q7 _ (by omega) (by omega), q5 _ (by omega) (by omega), q3 _ (by omega) (by omega), ← t1 (c - 1) (by omega), show w + 1 + (c - 1) = w + c by omega]
        · rw [if_neg c9, if_neg h9]
          by_cases c12 : c < 12
          · rw [if_pos c12, q7 _ (by omega) (by omega), q5 _ (by omega) (by omega)]
            have : c = 10 ∨ c = 11 := by omega
            rcases this with rfl | rfl
            · exact a3
            · exact b3
          · rw [if_neg c12]
            by_cases c14 : c < 14
            · rw [if_pos c14, q7 _ (by omega) (by omega)]
              have : c = 12 ∨ c = 13 := by omega
              rcases this with rfl | rfl
              · exact a5
              · exact b5
            · rw [if_neg c14]
              have : c = 14 ∨ c = 15 := by omega
              rcases this with rfl | rfl
              · exact a7
              · exact b7
  · rw [k8 _ (by omega) (by omega), q7 _ (by omega) (by omega), q5 _ (by omega) (by omega), q3 _ (by omega) (by omega), o1 b (by omega)]
