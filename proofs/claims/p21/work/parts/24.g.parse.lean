/-! THE REFERENCE's reading of a text -/
/-- the memory while a text is read: fields 9 to 20 of the reference, its lists of keys and finds -/
def zP (h : zi_Hp) (w T F : Nat → Int32) (b : Bool) : zi_Hp := (zh_n h, zh_s h, zh_k h, fun a j => if a = 211 ∧ 9 ≤ j ∧ j ≤ 20 then w j else if a = 219 then T j else if a = 220 then F j else zh_i h a j, fun a j => if a = 211 ∧ j = 15 then b else zh_b h a j, zh_l h, zh_r h, zh_L h, zh_x h)
section R24G
variable {h : zi_Hp} {w T F : Nat → Int32} {b : Bool}
theorem zP_n : zh_n (zP h w T F b) = zh_n h := Eq.trans rfl rfl
theorem zP_k (a : Nat) : zh_k (zP h w T F b) a = zh_k h a := Eq.trans rfl rfl
theorem zP_r (a j : Nat) : zh_r (zP h w T F b) a j = zh_r h a j := Eq.trans rfl rfl
theorem zP_S (S : Sh h) : Sh (zP h w T F b) := S
theorem zP_w {j : Nat} (h1 : 9 ≤ j) (h2 : j ≤ 20) : zh_i (zP h w T F b) 211 j = w j := if_pos ⟨rfl, h1, h2⟩
theorem zP_8 : zh_i (zP h w T F b) 211 8 = zh_i h 211 8 := Eq.trans rfl rfl
theorem zP_T (j : Nat) : zh_i (zP h w T F b) 219 j = T j := Eq.trans rfl rfl
theorem zP_F (j : Nat) : zh_i (zP h w T F b) 220 j = F j := Eq.trans rfl rfl
theorem zP_b : zh_b (zP h w T F b) 211 15 = b := Eq.trans rfl rfl
theorem zP_o {a : Nat} (j : Nat) (h1 : a ≠ 211) (h2 : a ≠ 219) (h3 : a ≠ 220) : zh_i (zP h w T F b) a j = zh_i h a j := by
  show (if a = 211 ∧ 9 ≤ j ∧ j ≤ 20 then w j else if a = 219 then T j else if a = 220 then F j else zh_i h a j) = _
  rw [if_neg (fun q => h1 q.1), if_neg h2, if_neg h3]
theorem zP_id : zP h (zh_i h 211) (zh_i h 219) (zh_i h 220) (zh_b h 211 15) = h := by
  refine zh_ext rfl rfl (fun _ => rfl) (fun a j => ?_) (fun a j => ?_) (fun _ _ => rfl) (fun _ _ => rfl) rfl rfl
  · show (if a = 211 ∧ 9 ≤ j ∧ j ≤ 20 then zh_i h 211 j else if a = 219 then zh_i h 219 j else if a = 220 then zh_i h 220 j else zh_i h a j) = zh_i h a j
    by_cases h1 : a = 211 ∧ 9 ≤ j ∧ j ≤ 20
    · rw [if_pos h1, h1.1]
    · rw [if_neg h1]
      by_cases h2 : a = 219
      · rw [if_pos h2, h2]
      · rw [if_neg h2]
        by_cases h3 : a = 220
        · rw [if_pos h3, h3]
        · rw [if_neg h3]
  · show (if a = 211 ∧ j = 15 then zh_b h 211 15 else zh_b h a j) = zh_b h a j
    by_cases h1 : a = 211 ∧ j = 15
    · rw [if_pos h1, h1.1, h1.2]
    · rw [if_neg h1]
theorem zP_ww {k : Nat} (v : Int32) (h1 : 9 ≤ k) (h2 : k ≤ 20) : zh_wi (zP h w T F b) 211 k v = zP h (up w k v) T F b := by
  refine zh_ext rfl rfl (fun _ => rfl) (fun a j => ?_) (fun a j => rfl) (fun _ _ => rfl) (fun _ _ => rfl) rfl rfl
  rw [hp_i_wi]
  show (if a = 211 ∧ j = k then v else if a = 211 ∧ 9 ≤ j ∧ j ≤ 20 then w j else if a = 219 then T j else if a = 220 then F j else zh_i h a j) = if a = 211 ∧ 9 ≤ j ∧ j ≤ 20 then up w k v j else if a = 219 then T j else if a = 220 then F j else zh_i h a j
  by_cases e : a = 211 ∧ j = k
  · rw [if_pos e, if_pos ⟨e.1, by omega, by omega⟩, e.2, up_s]
  · rw [if_neg e]
    by_cases e2 : a = 211 ∧ 9 ≤ j ∧ j ≤ 20
    · rw [if_pos e2, if_pos e2, up_n _ _ (fun q => e ⟨e2.1, q⟩)]
    · rw [if_neg e2, if_neg e2]
theorem zP_wT (k : Nat) (v : Int32) : zh_wi (zP h w T F b) 219 k v = zP h w (up T k v) F b := by
  refine zh_ext rfl rfl (fun _ => rfl) (fun a j => ?_) (fun a j => rfl) (fun _ _ => rfl) (fun _ _ => rfl) rfl rfl
  rw [hp_i_wi]
  show (if a = 219 ∧ j = k then v else if a = 211 ∧ 9 ≤ j ∧ j ≤ 20 then w j else if a = 219 then T j else if a = 220 then F j else zh_i h a j) = if a = 211 ∧ 9 ≤ j ∧ j ≤ 20 then w j else if a = 219 then up T k v j else if a = 220 then F j else zh_i h a j
  by_cases e1 : a = 219
  · rw [if_neg (show ¬ (a = 211 ∧ 9 ≤ j ∧ j ≤ 20) by omega), if_pos e1, if_neg (show ¬ (a = 211 ∧ 9 ≤ j ∧ j ≤ 20) by omega), if_pos e1]
    by_cases e2 : j = k
    · rw [if_pos ⟨e1, e2⟩, e2, up_s]
    · rw [if_neg (fun q => e2 q.2), up_n _ _ e2]
  · rw [if_neg (fun q => e1 q.1), if_neg e1, if_neg e1]
theorem zP_wF (k : Nat) (v : Int32) : zh_wi (zP h w T F b) 220 k v = zP h w T (up F k v) b := by
  refine zh_ext rfl rfl (fun _ => rfl) (fun a j => ?_) (fun a j => rfl) (fun _ _ => rfl) (fun _ _ => rfl) rfl rfl
  rw [hp_i_wi]
  show (if a = 220 ∧ j = k then v else if a = 211 ∧ 9 ≤ j ∧ j ≤ 20 then w j else if a = 219 then T j else if a = 220 then F j else zh_i h a j) = if a = 211 ∧ 9 ≤ j ∧ j ≤ 20 then w j else if a = 219 then T j else if a = 220 then up F k v j else zh_i h a j
  by_cases e1 : a = 220
  · rw [if_neg (show ¬ (a = 211 ∧ 9 ≤ j ∧ j ≤ 20) by omega), if_neg (show ¬ a = 219 by omega), if_pos e1, if_neg (show ¬ (a = 211 ∧ 9 ≤ j ∧ j ≤ 20) by omega), if_neg (show ¬ a = 219 by omega), if_pos e1]
    by_cases e2 : j = k
    · rw [if_pos ⟨e1, e2⟩, e2, up_s]
    · rw [if_neg (fun q => e2 q.2), up_n _ _ e2]
  · rw [if_neg (fun q => e1 q.1), if_neg e1, if_neg e1]
theorem zP_wb (v : Bool) : zh_wb (zP h w T F b) 211 15 v = zP h w T F v := by
  refine zh_ext rfl rfl (fun _ => rfl) (fun a j => rfl) (fun a j => ?_) (fun _ _ => rfl) (fun _ _ => rfl) rfl rfl
  rw [hp_b_wb]
  show (if a = 211 ∧ j = 15 then v else if a = 211 ∧ j = 15 then b else zh_b h a j) = if a = 211 ∧ j = 15 then v else zh_b h a j
  by_cases e : a = 211 ∧ j = 15
  · rw [if_pos e, if_pos e]
  · rw [if_neg e, if_neg e, if_neg e]
theorem p_g0 (S : Sh h) : (211 : Nat) < zh_n (zP h w T F b) := by rw [zP_n, S.n]; decide
theorem p_g1 (S : Sh h) : (zh_k (zP h w T F b) 211).1 = 8 := by rw [zP_k, S.k, kx_211]
/-- a byte of the tape, -1 behind its end -/
def byF (h : zi_Hp) (t p : Nat) : Int32 := if p < t then zh_i h 218 p else -1
theorem p_by (S : Sh h) {t p : Nat} (ht : t ≤ 160) (et : zh_i h 211 8 = nI t) (hp : p < 1000) : zv 1 183 0 [.ref 211, .int (nI p)] [] (zP h w T F b) = some (some (.int (byF h t p)), zP h w T F b) := by
  rw [b183_0 (p_g0 S) (p_g1 S), zP_8, et, byF]
  by_cases e : p < t
  · have r7 : zh_r (zP h w T F b) 211 7 = .ref 218 := by rw [zP_r, S.r, rx_211_7]
    rw [if_pos (nI_lt e (by omega)), if_pos e, b183_8 (p_g0 S) (p_g1 S) (by rw [r7, zq_rf]) (by rw [r7, zq_rf, zP_n, S.n]; decide) (by rw [r7, zq_rf, zP_k, S.k, kx_218]; exact zj_n (by omega) (by decide)) (by rw [r7, zq_rf, zP_k, S.k, kx_218]), r7, zq_rf, nI_clamp (by omega), zP_o _ (by decide) (by decide) (by decide), b183_18]
  · rw [if_neg (nI_nlt (by omega) (by omega)), if_neg e, b183_17, b183_18]
/-- a fault is told once -/
def rqF (w : Nat → Int32) (g code : Int32) : Nat → Int32 := if g = 0 ∧ w 13 = 0 then up (up w 13 code) 14 (w 10) else w
theorem p_rq (S : Sh h) {g code : Int32} : zv 1 182 0 [.ref 211, .int g, .int code] [] (zP h w T F b) = some (none, zP h (rqF w g code) T F b) := by
  rw [b182_0, rqF]
  by_cases hg : g = 0
  · rw [if_pos hg, b182_4 (p_g0 S) (p_g1 S), zP_w (by decide) (by decide)]
    by_cases hf : w 13 = 0
    · rw [if_pos hf, b182_11 (p_g0 S) (p_g1 S), zP_ww _ (by decide) (by decide), b182_18 (p_g0 S) (p_g1 S) (p_g0 S) (p_g1 S), zP_w (by decide) (by decide), zP_ww _ (by decide) (by decide), b182_24, if_pos ⟨hg, hf⟩, up_n _ _ (by decide)]
    · rw [if_neg hf, b182_24, if_neg (fun q => hf q.2)]
  · rw [if_neg hg, b182_24, if_neg (fun q => hg q.1)]
/-- what holds of the fields while a text is read: pos p, sort so, fault f -/
def WI (t : Nat) (w : Nat → Int32) (p so f : Nat) : Prop := w 9 = nI p ∧ p ≤ t ∧ (∃ b, b ≤ p ∧ w 10 = nI b) ∧ w 11 = nI so ∧ so ≤ 3 ∧ (so = 2 → ∃ v, v ≤ 99 ∧ w 12 = nI v) ∧ w 13 = nI f ∧ f ≤ 5
theorem rq_hi {g code : Int32} {j : Nat} (hj : j ≠ 13) (hj2 : j ≠ 14) : rqF w g code j = w j := by
  unfold rqF
  split
  · rw [up_n _ _ hj2, up_n _ _ hj]
  · rfl
theorem WI.rq {t p so f c : Nat} {g : Int32} (W : WI t w p so f) (hc : c ≤ 5) : ∃ f', WI t (rqF w g (nI c)) p so f' ∧ (f' = 0 → f = 0 ∧ (1 ≤ c → ¬ g = 0)) ∧ (¬ g = 0 → f' = f) ∧ (¬ f = 0 → f' = f) := by
  obtain ⟨w1, w2, w3, w4, w5, w6, w7, w8⟩ := W
  unfold rqF
  by_cases e : g = 0 ∧ w 13 = 0
  · rw [if_pos e]
    have hf : f = 0 := by
      have := e.2
      rw [w7] at this
      exact (nI_eq' (b := 0) (by omega) (by decide)).mp this
    refine ⟨c, ⟨by rw [up_n _ _ (by decide), up_n _ _ (by decide)]; exact w1, w2, by rw [up_n _ _ (by decide), up_n _ _ (by decide)]; exact w3, by rw [up_n _ _ (by decide), up_n _ _ (by decide)]; exact w4, w5, by rw [up_n _ _ (by decide), up_n _ _ (by decide)]; exact w6, by rw [up_n _ _ (by decide), up_s], hc⟩, fun h0 => ⟨hf, fun h1 => by omega⟩, fun h0 => absurd e.1 h0, fun h0 => absurd hf h0⟩
  · rw [if_neg e]
    refine ⟨f, ⟨w1, w2, w3, w4, w5, w6, w7, w8⟩, fun h0 => ⟨h0, fun _ hg => e ⟨hg, by rw [w7, h0]; rfl⟩⟩, fun _ => rfl, fun _ => rfl⟩
/-- one of a range, a letter or a figure -/
theorem by_lt {t p : Nat} {x : Int32} (e : byF h t p = x) (hx : ¬ x = -1) : p < t := by
  unfold byF at e
  by_cases hp : p < t
  · exact hp
  · rw [if_neg hp] at e
    exact absurd e.symm hx
/-- what reading a word leaves -/
def RdG (h : zi_Hp) (t p f : Nat) (w T F : Nat → Int32) (b : Bool) (o : Option zi_Rt) : Prop := ∃ w', o = some (none, zP h w' T F b) ∧ (∀ j, 14 < j → w' j = w j) ∧ ∃ p' so' f', WI t w' p' so' f' ∧ p ≤ p' ∧ (f = 0 → ¬ so' = 0 → p < p') ∧ (¬ f = 0 → w' = w ∧ f' = f)
/-- the next word -/
theorem p_rd0 (S : Sh h) {t p : Nat} (ht : t ≤ 160) (et : zh_i h 211 8 = nI t) (W : w 9 = nI p ∧ p ≤ t ∧ w 13 = 0) {u1 : Value} : RdG h t p 0 w T F b (zv 2 186 0 [.ref 211, u1] [] (zP h w T F b)) := by
  have w2 := W.2.1
  rw [b186_0 (p_g0 S) (p_g1 S), zP_w (by decide) (by decide), W.2.2]
  rw [if_neg (by decide)]
  · skip
    -- blanks
    have blanks : ∀ d p w, p + d = t → (w 9 = nI p ∧ p ≤ t ∧ w 13 = 0) → ∃ p' w', zv 2 186 8 [.ref 211, u1] [] (zP h w T F b) = zv 2 186 34 [.ref 211, u1] [] (zP h w' T F b) ∧ (w' 9 = nI p' ∧ p' ≤ t ∧ w' 13 = 0) ∧ p ≤ p' ∧ ∀ j, 14 < j → w' j = w j := by
      intro d
      induction d with
      | zero =>
        intro p w hp W
        rw [b186_8 (p_g0 S) (p_g1 S), zP_w (by decide) (by decide), W.1, p_by S ht et (by omega)]
        simp only [Option.bind_some, Option.toList_some, Option.toList_none, List.cons_append, List.nil_append]
        rw [b186_16, if_neg (by rw [byF, if_neg (by omega)]; decide)]
        exact ⟨p, w, rfl, W, Nat.le_refl _, fun _ _ => rfl⟩
      | succ d ih =>
        intro p w hp W
        rw [b186_8 (p_g0 S) (p_g1 S), zP_w (by decide) (by decide), W.1, p_by S ht et (by omega)]
        simp only [Option.bind_some, Option.toList_some, Option.toList_none, List.cons_append, List.nil_append]
        rw [b186_16]
        by_cases e : byF h t p = 32
        · rw [if_pos e, b186_21 (p_g0 S) (p_g1 S), zP_w (by decide) (by decide), zP_ww _ (by decide) (by decide), W.1, nI_s]
          obtain ⟨p', w', e', W', hp', hw'⟩ := ih (p + 1) (up w 9 (nI (p + 1))) (by omega) ⟨up_s _ _ _, by omega, by rw [up_n _ _ (by decide)]; exact W.2.2⟩
          exact ⟨p', w', e', W', by omega, fun j hj => by rw [hw' j hj, up_n _ _ (by omega)]⟩
        · rw [if_neg e]
          exact ⟨p, w, rfl, W, Nat.le_refl _, fun _ _ => rfl⟩
    obtain ⟨p1, w', e1, W1, hp1, hw1⟩ := blanks (t - p) p w (by omega) W
    obtain ⟨v1, v2, v7⟩ := id W1
    rw [e1, b186_34 (p_g0 S) (p_g1 S), zP_w (by decide) (by decide), zP_ww _ (by decide) (by decide), b186_44 (p_g0 S) (p_g1 S) (p_g0 S) (p_g1 S), zP_w (by decide) (by decide), up_n _ _ (by decide), v1, p_by S ht et (by omega)]
    simp only [Option.bind_some, Option.toList_some, Option.toList_none, List.cons_append, List.nil_append]
    generalize hw2 : up w' 10 (nI p1) = w2
    have a1 : w2 9 = nI p1 := by rw [← hw2, up_n _ _ (by decide)]; exact v1
    have a7 : w2 13 = nI 0 := by rw [← hw2, up_n _ _ (by decide)]; exact v7
    have a2 := v2
    have a8 : (0 : Nat) ≤ 5 := by decide
    have b2 : w2 10 = nI p1 := by rw [← hw2, up_s]
    have a3 : ∃ b, b ≤ p1 ∧ w2 10 = nI b := ⟨p1, Nat.le_refl _, b2⟩
    have hw2' : ∀ j, 14 < j → w2 j = w j := fun j hj => by rw [← hw2, up_n _ _ (by omega), hw1 j hj]
    clear hw2 e1
    have fin : ∀ (x1 : Int32) w3 p' so' f', (∀ j, 14 < j → w3 j = w j) → WI t w3 p' so' f' → p1 ≤ p' → (¬ so' = 0 → p1 < p') → RdG h t p 0 w T F b (zv 2 186 274 [.ref 211, .int x1] [] (zP h w3 T F b)) := fun x1 w3 p' so' f' h1 h2 h3 h4 => ⟨w3, by rw [b186_274], h1, p', so', f', h2, by omega, fun _ hs => by have := h4 hs; omega, fun h0 => absurd rfl h0⟩
    rw [b186_50]
    by_cases hneg : byF h t p1 < 0
    · rw [if_pos hneg, b186_55 (p_g0 S) (p_g1 S), zP_ww _ (by decide) (by decide)]
      exact fin _ (up w2 11 0) p1 0 0 (fun j hj => by rw [up_n _ _ (by omega)]; exact hw2' j hj) ⟨by rw [up_n _ _ (by decide)]; exact a1, a2, by rw [up_n _ _ (by decide)]; exact a3, up_s _ _ _, by decide, fun h0 => absurd h0 (by decide), by rw [up_n _ _ (by decide)]; exact a7, a8⟩ (Nat.le_refl _) (fun h0 => absurd rfl h0)
    · have hpt : p1 < t := by
        refine Decidable.by_contra (fun hh => hneg ?_)
        rw [byF, if_neg hh]; decide
      rw [if_neg hneg, b186_63, show (97 : Int64) = (nI 97).toInt64 from rfl, show (122 : Int64) = (nI 122).toInt64 from rfl]
      by_cases hal : nI 97 ≤ byF h t p1 ∧ byF h t p1 ≤ nI 122
      · -- a NAME
        rw [c_iy hal]
        simp only [Option.bind_some, Option.toList_some, Option.toList_none, List.cons_append, List.nil_append]
        rw [b186_74, if_neg (by decide), b186_77 (p_g0 S) (p_g1 S), zP_ww _ (by decide) (by decide)]
        have names : ∀ d p3 w3 (x1 : Int32), p3 + d = t → WI t w3 p3 1 0 → ∃ p' w', zv 2 186 82 [.ref 211, .int x1] [] (zP h w3 T F b) = zv 2 186 274 [.ref 211, .int x1] [] (zP h w' T F b) ∧ WI t w' p' 1 0 ∧ p3 ≤ p' ∧ (p3 = p1 → p1 < p') ∧ ∀ j, 14 < j → w' j = w3 j := by
          intro d
          induction d with
          | zero =>
            intro p3 w3 x1 hp3 W3
            have e3 : ¬ (nI 97 ≤ byF h t p3 ∧ byF h t p3 ≤ nI 122) := by rw [byF, if_neg (by omega)]; decide
            rw [b186_82 (p_g0 S) (p_g1 S), zP_w (by decide) (by decide), W3.1, p_by S ht et (by omega)]
            simp only [Option.bind_some, Option.toList_some, Option.toList_none, List.cons_append, List.nil_append]
            rw [b186_90, show (97 : Int64) = (nI 97).toInt64 from rfl, show (122 : Int64) = (nI 122).toInt64 from rfl, c_iz e3]
            simp only [Option.bind_some, Option.toList_some, Option.toList_none, List.cons_append, List.nil_append]
            rw [b186_100, if_pos rfl]
            exact ⟨p3, w3, rfl, W3, Nat.le_refl _, fun h0 => by omega, fun _ _ => rfl⟩
          | succ d ih =>
            intro p3 w3 x1 hp3 W3
            rw [b186_82 (p_g0 S) (p_g1 S), zP_w (by decide) (by decide), W3.1, p_by S ht et (by omega)]
            simp only [Option.bind_some, Option.toList_some, Option.toList_none, List.cons_append, List.nil_append]
            rw [b186_90, show (97 : Int64) = (nI 97).toInt64 from rfl, show (122 : Int64) = (nI 122).toInt64 from rfl]
            by_cases e3 : nI 97 ≤ byF h t p3 ∧ byF h t p3 ≤ nI 122
            · rw [c_iy e3]
              simp only [Option.bind_some, Option.toList_some, Option.toList_none, List.cons_append, List.nil_append]
              rw [b186_100, if_neg (by decide), b186_103 (p_g0 S) (p_g1 S), zP_w (by decide) (by decide), zP_ww _ (by decide) (by decide), W3.1, nI_s]
              obtain ⟨v1, v2, ⟨bb, v3, v3'⟩, v4, v5, v6, v7, v8⟩ := W3
              obtain ⟨p', w', e', W', hp', -, hw'⟩ := ih (p3 + 1) (up w3 9 (nI (p3 + 1))) x1 (by omega) ⟨up_s _ _ _, by omega, ⟨bb, by omega, by rw [up_n _ _ (by decide)]; exact v3'⟩, by rw [up_n _ _ (by decide)]; exact v4, v5, by rw [up_n _ _ (by decide)]; exact v6, by rw [up_n _ _ (by decide)]; exact v7, v8⟩
              exact ⟨p', w', e', W', by omega, fun h0 => by omega, fun j hj => by rw [hw' j hj, up_n _ _ (by omega)]⟩
            · rw [c_iz e3]
              simp only [Option.bind_some, Option.toList_some, Option.toList_none, List.cons_append, List.nil_append]
              rw [b186_100, if_pos rfl]
              exact ⟨p3, w3, rfl, W3, Nat.le_refl _, fun h0 => by subst h0; exact absurd hal e3, fun _ _ => rfl⟩
        obtain ⟨p', w', e', W', hp', hlt, hw'⟩ := names (t - p1) p1 (up w2 11 1) (byF h t p1) (by omega) ⟨by rw [up_n _ _ (by decide)]; exact a1, a2, by rw [up_n _ _ (by decide)]; exact a3, up_s _ _ _, by decide, fun h0 => absurd h0 (by decide), by rw [up_n _ _ (by decide)]; exact a7, a8⟩
        rw [e']
        exact fin _ _ p' 1 0 (fun j hj => by rw [hw' j hj, up_n _ _ (by omega)]; exact hw2' j hj) W' hp' (fun _ => hlt rfl)
      · rw [c_iz hal]
        simp only [Option.bind_some, Option.toList_some, Option.toList_none, List.cons_append, List.nil_append]
        rw [b186_74, if_pos rfl, b186_116, show (48 : Int64) = (nI 48).toInt64 from rfl, show (57 : Int64) = (nI 57).toInt64 from rfl]
        by_cases hdg : nI 48 ≤ byF h t p1 ∧ byF h t p1 ≤ nI 57
        · -- a NUMBER
          rw [c_iy hdg]
          simp only [Option.bind_some, Option.toList_some, Option.toList_none, List.cons_append, List.nil_append]
          rw [b186_127, if_neg (by decide), b186_130 (p_g0 S) (p_g1 S), zP_ww _ (by decide) (by decide), zP_ww _ (by decide) (by decide)]
          have nums : ∀ d p3 w3 (x1 : Int32), p3 + d = t → p1 ≤ p3 → w3 10 = nI p1 → WI t w3 p3 2 0 → (p3 = p1 → w3 12 = 0) → (p3 = p1 + 1 → ∃ v, v ≤ 9 ∧ w3 12 = nI v) → ∃ p' w', zv 2 186 140 [.ref 211, .int x1] [] (zP h w3 T F b) = zv 2 186 217 [.ref 211, .int x1] [] (zP h w' T F b) ∧ WI t w' p' 2 0 ∧ w' 10 = nI p1 ∧ p3 ≤ p' ∧ (p3 = p1 → p1 < p') ∧ ∀ j, 14 < j → w' j = w3 j := by
            intro d
            induction d with
            | zero =>
              intro p3 w3 x1 hp3 _ hb3 W3 _ _
              have e3 : ¬ (nI 48 ≤ byF h t p3 ∧ byF h t p3 ≤ nI 57) := by rw [byF, if_neg (by omega)]; decide
              rw [b186_140 (p_g0 S) (p_g1 S), zP_w (by decide) (by decide), W3.1, p_by S ht et (by omega)]
              simp only [Option.bind_some, Option.toList_some, Option.toList_none, List.cons_append, List.nil_append]
              rw [b186_148, show (48 : Int64) = (nI 48).toInt64 from rfl, show (57 : Int64) = (nI 57).toInt64 from rfl, c_iz e3]
              simp only [Option.bind_some, Option.toList_some, Option.toList_none, List.cons_append, List.nil_append]
              rw [b186_158, if_pos rfl]
              exact ⟨p3, w3, rfl, W3, hb3, Nat.le_refl _, fun h0 => by omega, fun _ _ => rfl⟩
            | succ d ih =>
              intro p3 w3 x1 hp3 h13 hb3 W3 z0 z1
              rw [b186_140 (p_g0 S) (p_g1 S), zP_w (by decide) (by decide), W3.1, p_by S ht et (by omega)]
              simp only [Option.bind_some, Option.toList_some, Option.toList_none, List.cons_append, List.nil_append]
              rw [b186_148, show (48 : Int64) = (nI 48).toInt64 from rfl, show (57 : Int64) = (nI 57).toInt64 from rfl]
              rcases in_or (byF h t p3) 48 57 (by decide) (by decide) with ⟨dg, d1, d2, ed, e3⟩ | e3
              · rw [c_iy e3]
                simp only [Option.bind_some, Option.toList_some, Option.toList_none, List.cons_append, List.nil_append]
                rw [b186_158, if_neg (by decide), b186_161 (p_g0 S) (p_g1 S), zP_w (by decide) (by decide), zP_w (by decide) (by decide), W3.1, hb3, nI_sub h13]
                obtain ⟨v1, v2, ⟨bb, v3, v3'⟩, v4, v5, v60, v7, v8⟩ := id W3
                obtain ⟨vv, v6, v6'⟩ := v60 rfl
                have nxt : ∀ nv, nv ≤ 99 → (p3 = p1 → nv ≤ 9) → ∃ p' w', zv 2 186 201 [.ref 211, .int x1] [.int (nI nv), .ref 211] (zP h w3 T F b) = zv 2 186 217 [.ref 211, .int x1] [] (zP h w' T F b) ∧ WI t w' p' 2 0 ∧ w' 10 = nI p1 ∧ p3 ≤ p' ∧ (p3 = p1 → p1 < p') ∧ ∀ j, 14 < j → w' j = w3 j := fun nv hnv hn9 => by
                  rw [b186_201 (p_g0 S) (p_g1 S), zP_ww _ (by decide) (by decide), b186_206 (p_g0 S) (p_g1 S) (p_g0 S) (p_g1 S), zP_w (by decide) (by decide), up_n _ _ (by decide), zP_ww _ (by decide) (by decide), v1, nI_s]
                  obtain ⟨p', w', e', W', hb', hp', -, hw'⟩ := ih (p3 + 1) (up (up w3 12 (nI nv)) 9 (nI (p3 + 1))) x1 (by omega) (by omega) (by rw [up_n _ _ (by decide), up_n _ _ (by decide)]; exact hb3) ⟨up_s _ _ _, by omega, ⟨p1, by omega, by rw [up_n _ _ (by decide), up_n _ _ (by decide)]; exact hb3⟩, by rw [up_n _ _ (by decide), up_n _ _ (by decide)]; exact v4, v5, fun _ => ⟨nv, hnv, by rw [up_n _ _ (by decide), up_s]⟩, by rw [up_n _ _ (by decide), up_n _ _ (by decide)]; exact v7, v8⟩ (fun h0 => by omega) (fun h0 => ⟨nv, hn9 (by omega), by rw [up_n _ _ (by decide), up_s]⟩)
                  exact ⟨p', w', e', W', hb', by omega, fun h0 => by omega, fun j hj => by rw [hw' j hj, up_n _ _ (by omega), up_n _ _ (by omega)]⟩
                by_cases hlt2 : nI (p3 - p1) < 2
                · have hd2 : p3 - p1 < 2 := (nI_lt' (b := 2) (by omega) (by decide)).mp hlt2
                  rw [if_pos hlt2, b186_175 (p_g0 S) (p_g1 S), zP_w (by decide) (by decide), zP_w (by decide) (by decide), v1, p_by S ht et (by omega), ed]
                  simp only [Option.bind_some, Option.toList_some, Option.toList_none, List.cons_append, List.nil_append]
                  rw [b186_190]
                  have hv : ∃ v0, w3 12 = nI v0 ∧ v0 ≤ 9 ∧ (p3 = p1 → v0 = 0) := by
                    by_cases h0 : p3 = p1
                    · exact ⟨0, z0 h0, by decide, fun _ => rfl⟩
                    · obtain ⟨v0, h1, h2⟩ := z1 (by omega)
                      exact ⟨v0, h2, h1, fun h => absurd h h0⟩
                  obtain ⟨v0, ev0, hv0, hv00⟩ := hv
                  have en : (10 : Int32) * w3 12 + nI dg - 48 = nI (10 * v0 + dg - 48) := by
                    rw [ev0, show (48 : Int32) = nI 48 from rfl, ← nI_sub (by omega)]
                    congr 1
                    show Int32.ofNat 10 * Int32.ofNat v0 + Int32.ofNat dg = Int32.ofNat (10 * v0 + dg)
                    rw [Int32.ofNat_add, Int32.ofNat_mul]
                  rw [en]
                  exact nxt _ (by omega) (fun h0 => by have := hv00 h0; omega)
                · have hd2 : ¬ p3 - p1 < 2 := fun h0 => hlt2 (nI_lt (b := 2) h0 (by decide))
                  rw [if_neg hlt2, b186_197 (p_g0 S) (p_g1 S), zP_w (by decide) (by decide), v6']
                  exact nxt vv v6 (fun h0 => by omega)
              · rw [c_iz e3]
                simp only [Option.bind_some, Option.toList_some, Option.toList_none, List.cons_append, List.nil_append]
                rw [b186_158, if_pos rfl]
                exact ⟨p3, w3, rfl, W3, hb3, Nat.le_refl _, fun h0 => by subst h0; exact absurd hdg e3, fun _ _ => rfl⟩
          obtain ⟨p', w', e', W', hb', hp', hlt, hw'⟩ := nums (t - p1) p1 (up (up w2 11 2) 12 0) (byF h t p1) (by omega) (Nat.le_refl _) (by rw [up_n _ _ (by decide), up_n _ _ (by decide)]; exact b2) ⟨by rw [up_n _ _ (by decide), up_n _ _ (by decide)]; exact a1, a2, by rw [up_n _ _ (by decide), up_n _ _ (by decide)]; exact a3, by rw [up_n _ _ (by decide), up_s]; rfl, by decide, fun _ => ⟨0, by decide, up_s _ _ _⟩, by rw [up_n _ _ (by decide), up_n _ _ (by decide)]; exact a7, a8⟩ (fun _ => up_s _ _ _) (fun h0 => by omega)
          have rest : ∀ g : Int32, RdG h t p 0 w T F b (zv 2 186 236 [.ref 211, .int (byF h t p1)] [.int g, .ref 211] (zP h w' T F b)) := fun g => by
            obtain ⟨f', Wf, -, -, -⟩ := W'.rq (c := 1) (g := g) (by decide)
            rw [b186_236 (p_g0 S) (p_g1 S), p_rq S]
            simp only [Option.bind_some, Option.toList_some, Option.toList_none, List.cons_append, List.nil_append]
            rw [b186_240]
            exact fin _ _ p' 2 f' (fun j hj => by rw [rq_hi (by omega) (by omega), hw' j hj, up_n _ _ (by omega), up_n _ _ (by omega)]; exact hw2' j hj) Wf hp' (fun _ => hlt rfl)
          rw [e', b186_217 (p_g0 S) (p_g1 S)]
          split
          · rw [b186_235]; exact rest 0
          · rw [b186_231]; exact rest 1
        · -- a STOP, or what is no word
          rw [c_iz hdg]
          simp only [Option.bind_some, Option.toList_some, Option.toList_none, List.cons_append, List.nil_append]
          rw [b186_127, if_pos rfl, b186_243 (p_g0 S) (p_g1 S), zP_ww _ (by decide) (by decide)]
          obtain ⟨bb, a3, a3'⟩ := a3
          have W3 : WI t (up w2 11 3) p1 3 0 := ⟨by rw [up_n _ _ (by decide)]; exact a1, a2, ⟨bb, a3, by rw [up_n _ _ (by decide)]; exact a3'⟩, up_s _ _ _, by decide, fun h0 => absurd h0 (by decide), by rw [up_n _ _ (by decide)]; exact a7, a8⟩
          have rest : ∀ g : Int32, RdG h t p 0 w T F b (zv 2 186 260 [.ref 211, .int (byF h t p1)] [.int g, .ref 211] (zP h (up w2 11 3) T F b)) := fun g => by
            obtain ⟨f', Wf, -, -, -⟩ := W3.rq (c := 1) (g := g) (by decide)
            have g9 : rqF (up w2 11 3) g 1 9 = nI p1 := Wf.1
            rw [b186_260 (p_g0 S) (p_g1 S), p_rq S]
            simp only [Option.bind_some, Option.toList_some, Option.toList_none, List.cons_append, List.nil_append]
            rw [b186_264 (p_g0 S) (p_g1 S), zP_w (by decide) (by decide), zP_ww _ (by decide) (by decide), g9, nI_s]
            obtain ⟨c1, c2, ⟨b9, c3, c3'⟩, c4, c5, c6, c7, c8⟩ := Wf
            refine fin _ _ (p1 + 1) 3 f' (fun j hj => by rw [up_n _ _ (by omega), rq_hi (by omega) (by omega), up_n _ _ (by omega)]; exact hw2' j hj) ⟨up_s _ _ _, by omega, ⟨b9, by omega, by rw [up_n _ _ (by decide)]; exact c3'⟩, by rw [up_n _ _ (by decide)]; exact c4, c5, by rw [up_n _ _ (by decide)]; exact c6, by rw [up_n _ _ (by decide)]; exact c7, c8⟩ (by omega) (fun _ => by omega)
          split
          · rw [b186_255]; exact rest 1
          · rw [b186_259]; exact rest 0
/-- the next word, in any state -/
theorem p_rd (S : Sh h) {t p so f : Nat} (ht : t ≤ 160) (et : zh_i h 211 8 = nI t) (W : WI t w p so f) {u1 : Value} : RdG h t p f w T F b (zv 2 186 0 [.ref 211, u1] [] (zP h w T F b)) := by
  obtain ⟨w1, w2, w3, w4, w5, w6, w7, w8⟩ := id W
  by_cases hf : f = 0
  · subst hf
    exact p_rd0 S ht et ⟨w1, w2, w7⟩
  · have hf0 : 0 < nI f := nI_lt (a := 0) (by omega) (by omega)
    rw [b186_0 (p_g0 S) (p_g1 S), zP_w (by decide) (by decide), w7, if_pos hf0, b186_7]
    exact ⟨w, rfl, fun _ _ => rfl, p, so, f, W, Nat.le_refl _, fun h0 => absurd h0 hf, fun _ => ⟨rfl, rfl⟩⟩
end R24G
