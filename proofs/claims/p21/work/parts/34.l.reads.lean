/-! THE REFERENCE reads tokens as the pure lexer does -/
/-- the reference has read the token behind n -/
def TW (B : Nat → Int32) (w : Nat → Int32) (t n : Nat) : Prop := w 9 = nI (lX B t n) ∧ w 10 = nI (lS B t n) ∧ (lK B t n = 0 → w 13 = 1 ∧ w 14 = nI (lS B t n)) ∧ (¬ lK B t n = 0 → w 13 = 0 ∧ w 11 = nI (lK B t n - 1)) ∧ (lK B t n = 3 → w 12 = lVv B (lS B t n) (lX B t n - lS B t n))
/-- the tape's bytes -/
def BT (B : Nat → Int32) (h : zi_Hp) (t : Nat) : Prop := t ≤ 160 ∧ zh_i h 211 8 = nI t ∧ ∀ j, j < t → zh_i h 218 j = B j ∧ ∃ b, b ≤ 127 ∧ B j = nI b
section R34L
variable {h : zi_Hp} {w T F : Nat → Int32} {b : Bool} {B : Nat → Int32} {t n : Nat}
theorem BT.by (Q : BT B h t) {p : Nat} : byF h t p = if p < t then B p else -1 := by
  unfold byF
  by_cases e : p < t
  · rw [if_pos e, if_pos e, (Q.2.2 p e).1]
  · rw [if_neg e, if_neg e]
theorem BT.qL (Q : BT B h t) {p : Nat} : (nI 97 ≤ byF h t p ∧ byF h t p ≤ nI 122) ↔ (p < t ∧ isL (B p) = true) := by
  rw [Q.by]
  unfold isL
  by_cases e : p < t
  · rw [if_pos e, decide_eq_true_eq, Int32.not_lt, Int32.not_lt]
    exact ⟨fun q => ⟨e, q⟩, fun q => q.2⟩
  · rw [if_neg e]
    exact ⟨fun q => absurd q (by decide), fun q => absurd q.1 e⟩
theorem BT.qF (Q : BT B h t) {p : Nat} : (nI 48 ≤ byF h t p ∧ byF h t p ≤ nI 57) ↔ (p < t ∧ isF (B p) = true) := by
  rw [Q.by]
  unfold isF
  by_cases e : p < t
  · rw [if_pos e, decide_eq_true_eq, Int32.not_lt, Int32.not_lt]
    exact ⟨fun q => ⟨e, q⟩, fun q => q.2⟩
  · rw [if_neg e]
    exact ⟨fun q => absurd q (by decide), fun q => absurd q.1 e⟩
theorem BT.qB (Q : BT B h t) {p : Nat} : byF h t p = 32 ↔ (p < t ∧ isB (B p) = true) := by
  rw [Q.by]
  unfold isB
  by_cases e : p < t
  · rw [if_pos e, decide_eq_true_eq]
    exact ⟨fun q => ⟨e, q⟩, fun q => q.2⟩
  · rw [if_neg e]
    exact ⟨fun q => absurd q (by decide), fun q => absurd q.1 e⟩
theorem BT.neg (Q : BT B h t) {p : Nat} : byF h t p < 0 ↔ t ≤ p := by
  rw [Q.by]
  by_cases e : p < t
  · obtain ⟨c, hc, ec⟩ := (Q.2.2 p e).2
    rw [if_pos e, ec]
    exact ⟨fun q => absurd q (nI_pos (by omega)), fun q => by omega⟩
  · rw [if_neg e]
    exact ⟨fun _ => by omega, fun _ => by decide⟩
theorem y_by (S : Sh h) (Q : BT B h t) {p : Nat} (hp : p < 1000) : zv 1 183 0 [.ref 211, .int (nI p)] [] (zP h w T F b) = some (some (.int (byF h t p)), zP h w T F b) := p_by S Q.1 Q.2.1 hp
theorem y_bl (S : Sh h) (Q : BT B h t) {u : Value} : ∀ d n w, n + d = t → w 9 = nI n → zv 2 186 8 [.ref 211, u] [] (zP h w T F b) = zv 2 186 34 [.ref 211, u] [] (zP h (up w 9 (nI (lR B t isB d n))) T F b)
  | 0, n, w, hn, e9 => by
    have ht := Q.1
    have q : ¬ byF h t n = 32 := fun z => by have := Q.qB.mp z; omega
    rw [b186_8 (p_g0 S) (p_g1 S), zP_w (by decide) (by decide), e9, y_by S Q (by omega)]
    simp only [Option.bind_some, Option.toList_some, Option.toList_none, List.cons_append, List.nil_append]
    rw [b186_16, if_neg q]
    unfold lR
    rw [up_id w 9 e9.symm]
  | d + 1, n, w, hn, e9 => by
    have ht := Q.1
    rw [b186_8 (p_g0 S) (p_g1 S), zP_w (by decide) (by decide), e9, y_by S Q (by omega)]
    simp only [Option.bind_some, Option.toList_some, Option.toList_none, List.cons_append, List.nil_append]
    rw [b186_16]
    unfold lR
    by_cases q : byF h t n = 32
    · rw [if_pos q, if_pos (Q.qB.mp q), b186_21 (p_g0 S) (p_g1 S), zP_w (by decide) (by decide), zP_ww _ (by decide) (by decide), e9, nI_s, y_bl S Q d (n + 1) _ (by omega) (up_s _ _ _), up_up]
    · rw [if_neg q, if_neg (fun z => q (Q.qB.mpr z)), up_id w 9 e9.symm]
theorem y_lt (S : Sh h) (Q : BT B h t) {x : Int32} : ∀ d n w, n + d = t → w 9 = nI n → zv 2 186 82 [.ref 211, .int x] [] (zP h w T F b) = zv 2 186 274 [.ref 211, .int x] [] (zP h (up w 9 (nI (lR B t isL d n))) T F b)
  | 0, n, w, hn, e9 => by
    have ht := Q.1
    have q : ¬ (nI 97 ≤ byF h t n ∧ byF h t n ≤ nI 122) := fun z => by have := Q.qL.mp z; omega
    rw [b186_82 (p_g0 S) (p_g1 S), zP_w (by decide) (by decide), e9, y_by S Q (by omega)]
    simp only [Option.bind_some, Option.toList_some, Option.toList_none, List.cons_append, List.nil_append]
    rw [b186_90, show (97 : Int64) = (nI 97).toInt64 from rfl, show (122 : Int64) = (nI 122).toInt64 from rfl, c_iz q]
    simp only [Option.bind_some, Option.toList_some, Option.toList_none, List.cons_append, List.nil_append]
    rw [b186_100, if_pos rfl]
    unfold lR
    rw [up_id w 9 e9.symm]
  | d + 1, n, w, hn, e9 => by
    have ht := Q.1
    rw [b186_82 (p_g0 S) (p_g1 S), zP_w (by decide) (by decide), e9, y_by S Q (by omega)]
    simp only [Option.bind_some, Option.toList_some, Option.toList_none, List.cons_append, List.nil_append]
    rw [b186_90, show (97 : Int64) = (nI 97).toInt64 from rfl, show (122 : Int64) = (nI 122).toInt64 from rfl]
    unfold lR
    by_cases q : nI 97 ≤ byF h t n ∧ byF h t n ≤ nI 122
    · rw [c_iy q, if_pos (Q.qL.mp q)]
      simp only [Option.bind_some, Option.toList_some, Option.toList_none, List.cons_append, List.nil_append]
      rw [b186_100, if_neg (by decide), b186_103 (p_g0 S) (p_g1 S), zP_w (by decide) (by decide), zP_ww _ (by decide) (by decide), e9, nI_s, y_lt S Q d (n + 1) _ (by omega) (up_s _ _ _), up_up]
    · rw [c_iz q, if_neg (fun z => q (Q.qL.mpr z))]
      simp only [Option.bind_some, Option.toList_some, Option.toList_none, List.cons_append, List.nil_append]
      rw [b186_100, if_pos rfl, up_id w 9 e9.symm]
theorem up_4 {s : Nat → Int32} {v1 v2 v3 v4 : Int32} : up (up (up (up s 12 v1) 9 v2) 12 v3) 9 v4 = up (up s 12 v3) 9 v4 := by
  funext j
  unfold up
  by_cases q5 : j = 9
  · simp only [if_pos q5]
  · by_cases q4 : j = 12
    · simp only [if_neg q5, if_pos q4]
    · simp only [if_neg q5, if_neg q4]
theorem y_fg (S : Sh h) (Q : BT B h t) {x : Int32} {st : Nat} : ∀ d n w, n + d = t → w 9 = nI n → w 10 = nI st → st ≤ n → w 12 = lVv B st (min (n - st) 2) → zv 2 186 140 [.ref 211, .int x] [] (zP h w T F b) = zv 2 186 217 [.ref 211, .int x] [] (zP h (up (up w 12 (lVv B st (min (lR B t isF d n - st) 2))) 9 (nI (lR B t isF d n))) T F b)
  | 0, n, w, hn, e9, e10, hs, e12 => by
    have ht := Q.1
    have q : ¬ (nI 48 ≤ byF h t n ∧ byF h t n ≤ nI 57) := fun z => by have := Q.qF.mp z; omega
    rw [b186_140 (p_g0 S) (p_g1 S), zP_w (by decide) (by decide), e9, y_by S Q (by omega)]
    simp only [Option.bind_some, Option.toList_some, Option.toList_none, List.cons_append, List.nil_append]
    rw [b186_148, show (48 : Int64) = (nI 48).toInt64 from rfl, show (57 : Int64) = (nI 57).toInt64 from rfl, c_iz q]
    simp only [Option.bind_some, Option.toList_some, Option.toList_none, List.cons_append, List.nil_append]
    rw [b186_158, if_pos rfl]
    unfold lR
    rw [up_id w 12 e12.symm, up_id w 9 e9.symm]
  | d + 1, n, w, hn, e9, e10, hs, e12 => by
    have ht := Q.1
    rw [b186_140 (p_g0 S) (p_g1 S), zP_w (by decide) (by decide), e9, y_by S Q (by omega)]
    simp only [Option.bind_some, Option.toList_some, Option.toList_none, List.cons_append, List.nil_append]
    rw [b186_148, show (48 : Int64) = (nI 48).toInt64 from rfl, show (57 : Int64) = (nI 57).toInt64 from rfl]
    unfold lR
    by_cases q : nI 48 ≤ byF h t n ∧ byF h t n ≤ nI 57
    · have q' := Q.qF.mp q
      have eb : byF h t n = B n := by rw [Q.by, if_pos q'.1]
      rw [c_iy q, if_pos q']
      simp only [Option.bind_some, Option.toList_some, Option.toList_none, List.cons_append, List.nil_append]
      rw [b186_158, if_neg (by decide), b186_161 (p_g0 S) (p_g1 S), zP_w (by decide) (by decide), zP_w (by decide) (by decide), e9, e10, nI_sub hs]
      have nxt : ∀ v, v = lVv B st (min (n + 1 - st) 2) → zv 2 186 201 [.ref 211, .int x] [.int v, .ref 211] (zP h w T F b) = zv 2 186 217 [.ref 211, .int x] [] (zP h (up (up w 12 (lVv B st (min (lR B t isF d (n + 1) - st) 2))) 9 (nI (lR B t isF d (n + 1)))) T F b) := fun v ev => by
        rw [b186_201 (p_g0 S) (p_g1 S), zP_ww _ (by decide) (by decide), b186_206 (p_g0 S) (p_g1 S) (p_g0 S) (p_g1 S), zP_w (by decide) (by decide), up_n _ _ (by decide), zP_ww _ (by decide) (by decide), e9, nI_s, y_fg S Q (st := st) d (n + 1) _ (by omega) (up_s _ _ _) (by rw [up_n _ _ (by decide), up_n _ _ (by decide)]; exact e10) (by omega) (by rw [up_n _ _ (by decide), up_s]; exact ev), up_4]
      by_cases q2 : n - st < 2
      · rw [if_pos (show nI (n - st) < 2 from nI_lt (b := 2) q2 (by decide)), b186_175 (p_g0 S) (p_g1 S), zP_w (by decide) (by decide), zP_w (by decide) (by decide), e9, y_by S Q (by omega), eb]
        simp only [Option.bind_some, Option.toList_some, Option.toList_none, List.cons_append, List.nil_append]
        rw [b186_190]
        refine nxt _ ?_
        rw [e12, show min (n - st) 2 = n - st by omega, show min (n + 1 - st) 2 = (n - st) + 1 by omega]
        show _ = lVv B st (n - st) * 10 + B (st + (n - st)) - 48
        rw [show st + (n - st) = n by omega, Int32.mul_comm]
      · rw [if_neg (show ¬ nI (n - st) < 2 from fun z => q2 ((nI_lt' (b := 2) (by omega) (by decide)).mp z)), b186_197 (p_g0 S) (p_g1 S), zP_w (by decide) (by decide)]
        refine nxt _ ?_
        rw [e12, show min (n - st) 2 = 2 by omega, show min (n + 1 - st) 2 = 2 by omega]
    · rw [c_iz q, if_neg (fun z => q (Q.qF.mpr z))]
      simp only [Option.bind_some, Option.toList_some, Option.toList_none, List.cons_append, List.nil_append]
      rw [b186_158, if_pos rfl, up_id w 12 e12.symm, up_id w 9 e9.symm]
theorem y_rdF (S : Sh h) (hf : 0 < w 13) {u : Value} : zv 2 186 0 [.ref 211, u] [] (zP h w T F b) = some (none, zP h w T F b) := by
  rw [b186_0 (p_g0 S) (p_g1 S), zP_w (by decide) (by decide), if_pos hf, b186_7]
/-- the reference reads the token behind n -/
theorem y_rd (S : Sh h) (Q : BT B h t) (hn : n ≤ t) (e9 : w 9 = nI n) (e13 : w 13 = 0) {u : Value} : ∃ w', zv 2 186 0 [.ref 211, u] [] (zP h w T F b) = some (none, zP h w' T F b) ∧ TW B w' t n ∧ ∀ j, 14 < j → w' j = w j := by
  have ht := Q.1
  have hst : lS B t n ≤ t := lS_le hn
  have hxt : lX B t n ≤ t := lX_le hn
  have hxg : lS B t n ≤ lX B t n := lX_ge
  have bl := y_bl S Q (w := w) (T := T) (F := F) (b := b) (u := u) (t - n) n (by omega) e9
  have el : lR B t isB (t - n) n = lS B t n := rfl
  rw [el] at bl
  obtain ⟨w2, ew2⟩ : ∃ w2, w2 = up (up w 9 (nI (lS B t n))) 10 (nI (lS B t n)) := ⟨_, rfl⟩
  have go : zv 2 186 0 [.ref 211, u] [] (zP h w T F b) = zv 2 186 50 [.ref 211, u] [.int (byF h t (lS B t n))] (zP h w2 T F b) := by
    rw [b186_0 (p_g0 S) (p_g1 S), zP_w (by decide) (by decide), e13, if_neg (by decide), bl, b186_34 (p_g0 S) (p_g1 S), zP_w (by decide) (by decide), up_s, zP_ww _ (by decide) (by decide), ← ew2, b186_44 (p_g0 S) (p_g1 S) (p_g0 S) (p_g1 S), zP_w (by decide) (by decide), show w2 9 = nI (lS B t n) by rw [ew2, up_n _ _ (by decide), up_s], y_by S Q (by omega)]
    simp only [Option.bind_some, Option.toList_some, Option.toList_none, List.cons_append, List.nil_append]
  have a9 : w2 9 = nI (lS B t n) := by rw [ew2, up_n _ _ (by decide), up_s]
  have a10 : w2 10 = nI (lS B t n) := by rw [ew2, up_s]
  have a13 : w2 13 = 0 := by rw [ew2, up_n _ _ (by decide), up_n _ _ (by decide)]; exact e13
  have ah : ∀ j, 14 < j → w2 j = w j := fun j hj => by rw [ew2, up_n _ _ (by omega), up_n _ _ (by omega)]
  rw [go, b186_50]
  clear go bl ew2
  by_cases hneg : t ≤ lS B t n
  · obtain ⟨k1, k2⟩ := lK_end (B := B) hneg
    rw [if_pos (Q.neg.mpr hneg), b186_55 (p_g0 S) (p_g1 S), zP_ww _ (by decide) (by decide), b186_274]
    refine ⟨_, rfl, ⟨?_, ?_, fun z => by omega, fun _ => ⟨?_, ?_⟩, fun z => by omega⟩, fun j hj => by rw [up_n _ _ (by omega)]; exact ah j hj⟩
    · rw [up_n _ _ (by decide), a9, k2]
    · rw [up_n _ _ (by decide), a10]
    · rw [up_n _ _ (by decide)]; exact a13
    · rw [up_s, k1]; rfl
  · have hlt : lS B t n < t := by omega
    rw [if_neg (fun z => hneg (Q.neg.mp z)), b186_63, show (97 : Int64) = (nI 97).toInt64 from rfl, show (122 : Int64) = (nI 122).toInt64 from rfl]
    cases h1 : isL (B (lS B t n)) with
    | true =>
      obtain ⟨k1, k2⟩ := lK_name hlt h1
      have ql := y_lt S Q (T := T) (F := F) (b := b) (x := byF h t (lS B t n)) (t - lS B t n) (lS B t n) (up w2 11 1) (by omega) (by rw [up_n _ _ (by decide)]; exact a9)
      rw [← k2] at ql
      rw [c_iy (Q.qL.mpr ⟨hlt, h1⟩)]
      simp only [Option.bind_some, Option.toList_some, Option.toList_none, List.cons_append, List.nil_append]
      rw [b186_74, if_neg (by decide), b186_77 (p_g0 S) (p_g1 S), zP_ww _ (by decide) (by decide), ql, b186_274]
      refine ⟨_, rfl, ⟨up_s _ _ _, ?_, fun z => by omega, fun _ => ⟨?_, ?_⟩, fun z => by omega⟩, fun j hj => by rw [up_n _ _ (by omega), up_n _ _ (by omega)]; exact ah j hj⟩
      · rw [up_n _ _ (by decide), up_n _ _ (by decide), a10]
      · rw [up_n _ _ (by decide), up_n _ _ (by decide)]; exact a13
      · rw [up_n _ _ (by decide), up_s, k1]; rfl
    | false =>
      rw [c_iz (fun z => by have := (Q.qL.mp z).2; rw [h1] at this; exact absurd this (by decide))]
      simp only [Option.bind_some, Option.toList_some, Option.toList_none, List.cons_append, List.nil_append]
      rw [b186_74, if_pos rfl, b186_116, show (48 : Int64) = (nI 48).toInt64 from rfl, show (57 : Int64) = (nI 57).toInt64 from rfl]
      cases h2 : isF (B (lS B t n)) with
      | true =>
        obtain ⟨k1, k2⟩ := lK_num hlt h1 h2
        have qf := y_fg S Q (T := T) (F := F) (b := b) (x := byF h t (lS B t n)) (st := lS B t n) (t - lS B t n) (lS B t n) (up (up w2 11 2) 12 0) (by omega) (by rw [up_n _ _ (by decide), up_n _ _ (by decide)]; exact a9) (by rw [up_n _ _ (by decide), up_n _ _ (by decide)]; exact a10) (Nat.le_refl _) (by rw [up_s, Nat.sub_self]; rfl)
        rw [← k2] at qf
        obtain ⟨w3, ew3⟩ : ∃ w3, w3 = up (up (up (up w2 11 2) 12 0) 12 (lVv B (lS B t n) (min (lX B t n - lS B t n) 2))) 9 (nI (lX B t n)) := ⟨_, rfl⟩
        rw [← ew3] at qf
        have b9 : w3 9 = nI (lX B t n) := by rw [ew3, up_s]
        have b10 : w3 10 = nI (lS B t n) := by rw [ew3, up_n _ _ (by decide), up_n _ _ (by decide), up_n _ _ (by decide), up_n _ _ (by decide), a10]
        have b11 : w3 11 = 2 := by rw [ew3, up_n _ _ (by decide), up_n _ _ (by decide), up_n _ _ (by decide), up_s]
        have b12 : w3 12 = lVv B (lS B t n) (min (lX B t n - lS B t n) 2) := by rw [ew3, up_n _ _ (by decide), up_s]
        have b13 : w3 13 = 0 := by rw [ew3, up_n _ _ (by decide), up_n _ _ (by decide), up_n _ _ (by decide), up_n _ _ (by decide)]; exact a13
        have bh : ∀ j, 14 < j → w3 j = w j := fun j hj => by rw [ew3, up_n _ _ (by omega), up_n _ _ (by omega), up_n _ _ (by omega), up_n _ _ (by omega)]; exact ah j hj
        have rest : ∀ g : Int32, zv 2 186 236 [.ref 211, .int (byF h t (lS B t n))] [.int g, .ref 211] (zP h w3 T F b) = some (none, zP h (rqF w3 g 1) T F b) := fun g => by
          rw [b186_236 (p_g0 S) (p_g1 S), p_rq S]
          simp only [Option.bind_some, Option.toList_some, Option.toList_none, List.cons_append, List.nil_append]
          rw [b186_240, b186_274]
        rw [c_iy (Q.qF.mpr ⟨hlt, h2⟩)]
        simp only [Option.bind_some, Option.toList_some, Option.toList_none, List.cons_append, List.nil_append]
        rw [b186_127, if_neg (by decide), b186_130 (p_g0 S) (p_g1 S), zP_ww _ (by decide) (by decide), zP_ww _ (by decide) (by decide), qf, b186_217 (p_g0 S) (p_g1 S), zP_w (by decide) (by decide), zP_w (by decide) (by decide), b9, b10, nI_sub hxg]
        clear qf ew3
        by_cases q : lX B t n - lS B t n ≤ 2
        · rw [if_pos q] at k1
          rw [if_neg (fun z => by rw [show (2 : Int32) = nI 2 from rfl, nI_lt' (by omega) (by omega)] at z; omega), b186_231, rest]
          have er : rqF w3 1 1 = w3 := by unfold rqF; rw [if_neg (fun z => absurd z.1 (by decide))]
          rw [er]
          refine ⟨_, rfl, ⟨b9, b10, fun z => by omega, fun _ => ⟨b13, ?_⟩, fun _ => ?_⟩, bh⟩
          · rw [b11, k1]; rfl
          · rw [b12, show min (lX B t n - lS B t n) 2 = lX B t n - lS B t n by omega]
        · rw [if_neg q] at k1
          rw [if_pos (by rw [show (2 : Int32) = nI 2 from rfl, nI_lt' (by omega) (by omega)]; omega), b186_235, rest]
          have er : rqF w3 0 1 = up (up w3 13 1) 14 (w3 10) := by unfold rqF; rw [if_pos ⟨rfl, b13⟩]
          rw [er]
          refine ⟨_, rfl, ⟨?_, ?_, fun _ => ⟨?_, ?_⟩, fun z => absurd k1 z, fun z => by omega⟩, fun j hj => by rw [up_n _ _ (by omega), up_n _ _ (by omega)]; exact bh j hj⟩
          · rw [up_n _ _ (by decide), up_n _ _ (by decide), b9]
          · rw [up_n _ _ (by decide), up_n _ _ (by decide), b10]
          · rw [up_n _ _ (by decide), up_s]
          · rw [up_s, b10]
      | false =>
        obtain ⟨k1, k2⟩ := lK_oth hlt h1 h2
        have eb : byF h t (lS B t n) = B (lS B t n) := by rw [Q.by, if_pos hlt]
        rw [c_iz (fun z => by have := (Q.qF.mp z).2; rw [h2] at this; exact absurd this (by decide))]
        simp only [Option.bind_some, Option.toList_some, Option.toList_none, List.cons_append, List.nil_append]
        rw [b186_127, if_pos rfl, b186_243 (p_g0 S) (p_g1 S), zP_ww _ (by decide) (by decide)]
        obtain ⟨w3, ew3⟩ : ∃ w3, w3 = up w2 11 3 := ⟨_, rfl⟩
        rw [← ew3]
        have b9 : w3 9 = nI (lS B t n) := by rw [ew3, up_n _ _ (by decide), a9]
        have b10 : w3 10 = nI (lS B t n) := by rw [ew3, up_n _ _ (by decide), a10]
        have b11 : w3 11 = 3 := by rw [ew3, up_s]
        have b13 : w3 13 = 0 := by rw [ew3, up_n _ _ (by decide)]; exact a13
        have bh : ∀ j, 14 < j → w3 j = w j := fun j hj => by rw [ew3, up_n _ _ (by omega)]; exact ah j hj
        have rest : ∀ g : Int32, zv 2 186 260 [.ref 211, .int (byF h t (lS B t n))] [.int g, .ref 211] (zP h w3 T F b) = some (none, zP h (up (rqF w3 g 1) 9 (nI (lS B t n + 1))) T F b) := fun g => by
          have g9 : rqF w3 g 1 9 = nI (lS B t n) := by rw [rq_hi (by decide) (by decide), b9]
          rw [b186_260 (p_g0 S) (p_g1 S), p_rq S]
          simp only [Option.bind_some, Option.toList_some, Option.toList_none, List.cons_append, List.nil_append]
          rw [b186_264 (p_g0 S) (p_g1 S), zP_w (by decide) (by decide), zP_ww _ (by decide) (by decide), g9, nI_s, b186_274]
        clear ew3
        rw [eb] at rest ⊢
        by_cases q : B (lS B t n) = 59
        · rw [if_pos q] at k1
          rw [if_pos q, b186_255, rest]
          have er : rqF w3 1 1 = w3 := by unfold rqF; rw [if_neg (fun z => absurd z.1 (by decide))]
          rw [er]
          refine ⟨_, rfl, ⟨?_, ?_, fun z => by omega, fun _ => ⟨?_, ?_⟩, fun z => by omega⟩, fun j hj => by rw [up_n _ _ (by omega)]; exact bh j hj⟩
          · rw [up_s, k2]
          · rw [up_n _ _ (by decide), b10]
          · rw [up_n _ _ (by decide), b13]
          · rw [up_n _ _ (by decide), b11, k1]; rfl
        · rw [if_neg q] at k1
          rw [if_neg q, b186_259, rest]
          have er : rqF w3 0 1 = up (up w3 13 1) 14 (w3 10) := by unfold rqF; rw [if_pos ⟨rfl, b13⟩]
          rw [er]
          refine ⟨_, rfl, ⟨?_, ?_, fun _ => ⟨?_, ?_⟩, fun z => absurd k1 z, fun z => by omega⟩, fun j hj => by rw [up_n _ _ (by omega), up_n _ _ (by omega), up_n _ _ (by omega)]; exact bh j hj⟩
          · rw [up_s, k2]
          · rw [up_n _ _ (by decide), up_n _ _ (by decide), up_n _ _ (by decide), b10]
          · rw [up_n _ _ (by decide), up_n _ _ (by decide), up_s]
          · rw [up_n _ _ (by decide), up_s, b10]
end R34L
