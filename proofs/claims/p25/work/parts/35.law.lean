/-! THE LAW: its turns -/
/-- the sheets are alike -/
def SHT (h : zi_Hp) : Prop := ∀ k, k < 4 → (zh_i h 204 k = -4 ∧ zh_i h 230 k = -4) ∨ (¬ zh_i h 230 k = -4 ∧ zh_i h 205 k = zh_i h 230 k ∧ ∃ z, z ≤ 40 ∧ zh_i h 204 k = nI z ∧ zh_i h 231 k = nI z)
def R2 (L : Nat) (h : zi_Hp) : Prop := RO h ∧ GO h ∧ zh_i h 197 1 = zh_i h 211 8 ∧ zh_L h = L ∧ SHT h
def LW (L k : Nat) (h : zi_Hp) : Prop := ∃ h', zv 18 243 26 [.retAddr 0, .ref 0, .ref 211, .int (nI k)] [] h = zv 18 243 957 [.retAddr 0, .ref 0, .ref 211, .int (nI k)] [] h' ∧ R2 L h'
section R35
variable {h h1 h2 : zi_Hp} {L : Nat}
theorem RO.fc (O : RO h) (S1 : Sh h1) (F : Fb h h1) : RO h1 := by
  obtain ⟨-, J, k⟩ := O
  exact ⟨S1, J.congr (fun j _ => (F.1 212 j (by decide)).1), k.same (F.1 211 8 (by decide)).1 (fun j => (F.1 213 j (by decide)).1) (fun j => (F.1 214 j (by decide)).2.1) (fun j => (F.1 231 j (by decide)).1)⟩
theorem GO.fx (O : GO h) (S1 : Sh h1) (F : Fx0 h h1) : GO h1 := O.of S1 (fun W V o j ho => by
  have := V.l2
  exact ⟨(F.1 (W + o) j (by omega)).1, (F.1 (W + o) j (by omega)).2.1⟩)
theorem SHT.same (T : SHT h) (e : ∀ k, zh_i h2 204 k = zh_i h 204 k ∧ zh_i h2 205 k = zh_i h 205 k ∧ zh_i h2 230 k = zh_i h 230 k ∧ zh_i h2 231 k = zh_i h 231 k) : SHT h2 := fun k hk => by
  obtain ⟨e1, e2, e3, e4⟩ := e k
  rw [e1, e2, e3, e4]
  exact T k hk
theorem SHT.go (T : SHT h) (F1 : Fy h h1) (F2 : Fx h1 h2) : SHT h2 := T.same (fun k => ⟨by rw [(F2.1.1 204 k (by decide)).1]; exact (F1.2 k).1, by rw [(F2.1.1 205 k (by decide)).1]; exact (F1.2 k).2, by rw [(F2.2 k).1]; exact (F1.1.1 230 k (by decide)).1, by rw [(F2.2 k).2]; exact (F1.1.1 231 k (by decide)).1⟩)
theorem R2.cc (R : R2 L h) {o1 : Option zi_Rt} (c : CC h o1) : ∃ v h1, o1 = some (some (.int v), h1) ∧ RO h1 ∧ zh_L h1 = L ∧ ∀ {o2 : Option zi_Rt}, RC h1 o2 → ∃ v2 h2, o2 = some (some (.int v2), h2) ∧ R2 L h2 := by
  obtain ⟨r, g, e, l, T⟩ := R
  obtain ⟨v, h1, e1, O1, F1⟩ := c
  refine ⟨v, h1, e1, r.fc O1.1 F1.1.1, by rw [F1.1.1.2.1]; exact l, fun {o2} c2 => ?_⟩
  obtain ⟨v2, h2, e2, O2, F2⟩ := c2
  exact ⟨v2, h2, e2, O2, O1.fx O2.1 F2.1.1, by rw [(F2.1.1.1 197 1 (by decide)).1, F1.2, e, F2.2, (F1.1.1.1 211 8 (by decide)).1], by rw [F2.1.1.2.1, F1.1.1.2.1]; exact l, T.go F1.1 F2.1⟩
theorem R2.ccl (R : R2 L h) {o1 : Option zi_Rt} (c : CL h o1) : ∃ (v : Int64) (h1 : zi_Hp), o1 = some (some (.long v), h1) ∧ RO h1 ∧ zh_L h1 = L ∧ ∀ {o2 : Option zi_Rt}, RCl h1 o2 → ∃ (v2 : Int64) (h2 : zi_Hp), o2 = some (some (.long v2), h2) ∧ R2 L h2 := by
  obtain ⟨r, g, e, l, T⟩ := R
  obtain ⟨v, h1, e1, O1, F1⟩ := c
  refine ⟨v, h1, e1, r.fc O1.1 F1.1.1, by rw [F1.1.1.2.1]; exact l, fun {o2} c2 => ?_⟩
  obtain ⟨v2, h2, e2, O2, F2⟩ := c2
  exact ⟨v2, h2, e2, O2, O1.fx O2.1 F2.1.1, by rw [(F2.1.1.1 197 1 (by decide)).1, F1.2, e, F2.2, (F1.1.1.1 211 8 (by decide)).1], by rw [F2.1.1.2.1, F1.1.1.2.1]; exact l, T.go F1.1 F2.1⟩
theorem SHT.sheet {x l n : Int32} (T : SHT h) (F1 : Fb h h1) (E1 : shE x l n (zh_i h 205) (zh_i h 204) (zh_i h1 205) (zh_i h1 204)) (F2 : Fx0 h1 h2) (E2 : shE x l n (zh_i h1 230) (zh_i h1 231) (zh_i h2 230) (zh_i h2 231)) : SHT h2 := by
  have a4 : ∀ k, zh_i h2 204 k = zh_i h1 204 k := fun k => (F2.1 204 k (by decide)).1
  have a5 : ∀ k, zh_i h2 205 k = zh_i h1 205 k := fun k => (F2.1 205 k (by decide)).1
  have b0 : ∀ k, zh_i h1 230 k = zh_i h 230 k := fun k => (F1.1 230 k (by decide)).1
  have b1 : ∀ k, zh_i h1 231 k = zh_i h 231 k := fun k => (F1.1 231 k (by decide)).1
  rcases E1 with ⟨k, z, hk, hz, ex, ew, hl, ev, q⟩ | ⟨ev, q⟩
  · rcases E2 with ⟨k', z', hk', hz', ex', ew', -, -, q'⟩ | ⟨ev', -⟩
    · have ek : k' = k := by rw [ex] at ex'; exact ((nI_eq' (by omega) (by omega)).mp ex').symm
      have ez : z' = z := by rw [ew] at ew'; exact ((nI_eq' (by omega) (by omega)).mp ew').symm
      subst ek ez
      intro j hj
      rw [a4, a5, (q j).1, (q j).2, (q' j).1, (q' j).2, b0, b1]
      by_cases e : j = k'
      · rw [if_pos e, if_pos e, if_pos e, if_pos e]
        exact Or.inr ⟨hl, rfl, z', hz, rfl, rfl⟩
      · rw [if_neg e, if_neg e, if_neg e, if_neg e]
        exact T j hj
    · exact absurd ev ev'
  · rcases E2 with ⟨k', z', hk', hz', ex', ew', -, ev', q'⟩ | ⟨-, q'⟩
    · exact absurd ev' ev
    · exact T.same (fun j => ⟨by rw [a4, (q j).2], by rw [a5, (q j).1], by rw [(q' j).1, b0], by rw [(q' j).2, b1]⟩)
theorem ly_eq {x y v v' : Int32} (T : SHT h) (p : lyC x y (zh_i h 204) v) (q : lyV x y (zh_i h 230) (zh_i h 231) v') : v = v' := by
  rcases p with ⟨p1, p2⟩ | ⟨k, hk, ek, p⟩
  · rcases q with ⟨q1, q2⟩ | ⟨k', hk', ek', q⟩
    · exact p2.trans q2.symm
    · refine absurd ?_ p1
      rw [ek']
      exact ⟨Int32.not_lt.mp (nI_pos (by omega)), Int32.not_lt.mp (fun w => by rw [nI_lt' (by omega) (by omega)] at w; omega)⟩
  · rcases q with ⟨q1, q2⟩ | ⟨k', hk', ek', q⟩
    · refine absurd ?_ q1
      rw [ek]
      exact ⟨Int32.not_lt.mp (nI_pos (by omega)), Int32.not_lt.mp (fun w => by rw [nI_lt' (by omega) (by omega)] at w; omega)⟩
    · have e : k' = k := by rw [ek] at ek'; exact ((nI_eq' (by omega) (by omega)).mp ek').symm
      subst e
      rcases T k' (by omega) with ⟨t1, t2⟩ | ⟨t1, -, z, hz, t3, t4⟩
      · rcases p with ⟨-, p2⟩ | ⟨p1, -⟩
        · rcases q with ⟨-, q2⟩ | ⟨q1, -⟩
          · exact p2.trans q2.symm
          · exact absurd t2 q1
        · rw [t1] at p1; exact absurd (by decide) p1
      · rcases q with ⟨q1, -⟩ | ⟨-, z', hz', e', q2⟩
        · exact absurd q1 t1
        · have ez : z' = z := by rw [t4] at e'; exact ((nI_eq' (by omega) (by omega)).mp e').symm
          subst ez
          rcases p with ⟨p1, -⟩ | ⟨-, p2⟩
          · rw [t3] at p1; exact absurd p1 (nI_pos (by omega))
          · rw [p2, q2, t3]
            have c : (¬ y < 0 ∧ y < nI z') ↔ ((0 : Int32) ≤ y ∧ y ≤ nI z' - 1) := by
              by_cases z0 : z' = 0
              · subst z0
                constructor
                · intro w; exact absurd w.2 w.1
                · intro w; exact absurd (Int32.le_trans w.1 w.2) (by decide)
              · rw [show nI z' - 1 = nI (z' - 1) from nI_s1 (by omega)]
                have r := rg (x := y) (b := z' - 1) (by omega)
                rw [show z' - 1 + 1 = z' by omega] at r
                exact r
            by_cases w : ¬ y < 0 ∧ y < nI z'
            · rw [if_pos w, if_pos (c.mp w)]
            · rw [if_neg w, if_neg (fun u => w (c.mpr u))]
theorem FD.eq {x a v b v' b' : Int32} (p : FD x a v b) (q : FD x a v' b') : v = v' ∧ b = b' := by
  rcases p with ⟨p1, p2, p3, p4⟩ | ⟨p1, p2, p3, p4⟩ | ⟨p1, p3, p4⟩
  · rcases q with ⟨q1, q2, q3, q4⟩ | ⟨q1, q2, q3, q4⟩ | ⟨q1, q3, q4⟩
    · exact ⟨p3.trans q3.symm, p4.trans q4.symm⟩
    · exact absurd p2 q2
    · exact absurd p1 q1
  · rcases q with ⟨q1, q2, q3, q4⟩ | ⟨q1, q2, q3, q4⟩ | ⟨q1, q3, q4⟩
    · exact absurd q2 p2
    · exact ⟨p3.trans q3.symm, p4.trans q4.symm⟩
    · exact absurd p1 q1
  · rcases q with ⟨q1, q2, q3, q4⟩ | ⟨q1, q2, q3, q4⟩ | ⟨q1, q3, q4⟩
    · exact absurd q1 p1
    · exact absurd q1 p1
    · exact ⟨p3.trans q3.symm, p4.trans q4.symm⟩
theorem ED.eq {x a v b v' b' : Int32} (p : ED x a v b) (q : ED x a v' b') : v = v' ∧ b = b' := by
  rcases p with ⟨p1, p3, p4⟩ | ⟨p1, p3, p4⟩
  · rcases q with ⟨q1, q3, q4⟩ | ⟨q1, q3, q4⟩
    · exact ⟨p3.trans q3.symm, p4.trans q4.symm⟩
    · exact absurd p1 q1
  · rcases q with ⟨q1, q3, q4⟩ | ⟨q1, q3, q4⟩
    · exact absurd q1 p1
    · exact ⟨p3.trans q3.symm, p4.trans q4.symm⟩
theorem gi_j {k j : Nat} (hk : k + 5 ≤ L) (hL : L ≤ 2560) (hj : j < 5) : ¬ (nI k + nI j < 0 ∨ L ≤ (nI k + nI j).toNatClampNeg) := by
  rw [nI_add]
  exact zj_n (by omega) (by omega)
theorem gi_0 {k : Nat} (hk : k + 5 ≤ L) (hL : L ≤ 2560) : ¬ (nI k < 0 ∨ L ≤ (nI k).toNatClampNeg) := zj_n (by omega) (by omega)
theorem gi_1 {k : Nat} (hk : k + 5 ≤ L) (hL : L ≤ 2560) : ¬ (nI k + 1 < 0 ∨ L ≤ (nI k + 1).toNatClampNeg) := gi_j (j := 1) hk hL (by decide)
theorem gi_2 {k : Nat} (hk : k + 5 ≤ L) (hL : L ≤ 2560) : ¬ (nI k + 2 < 0 ∨ L ≤ (nI k + 2).toNatClampNeg) := gi_j (j := 2) hk hL (by decide)
theorem gi_3 {k : Nat} (hk : k + 5 ≤ L) (hL : L ≤ 2560) : ¬ (nI k + 3 < 0 ∨ L ≤ (nI k + 3).toNatClampNeg) := gi_j (j := 3) hk hL (by decide)
theorem gi_4 {k : Nat} (hk : k + 5 ≤ L) (hL : L ≤ 2560) : ¬ (nI k + 4 < 0 ∨ L ≤ (nI k + 4).toNatClampNeg) := gi_j (j := 4) hk hL (by decide)
theorem lw_0 (R : R2 L h) {k : Nat} (hk : k + 5 ≤ L) (hL : L ≤ 2560) (hx : zh_x h (nI k).toNatClampNeg &&& 31 = 0) : LW L k h := by
  obtain ⟨r, g, e, l, T⟩ := id R
  obtain ⟨t, ht, et⟩ := r.2.2.1
  obtain ⟨v, h1, e1, O1, F1, D1⟩ := c_feed g ht (e.trans et) (zh_x h (nI k + 1).toNatClampNeg)
  have Q1 : RO h1 := r.fc O1.1 F1.1
  have eL1 : zh_L h1 = L := by rw [F1.1.2.1]; exact l
  obtain ⟨v2, h2, e2, O2, F2, D2⟩ := o_feed Q1 (zh_x h1 (nI k + 1).toNatClampNeg)
  have q := FD.eq D1 (by rw [F1.1.2.2, (F1.1.1 211 8 (by decide)).1, ← e] at D2; exact D2)
  have R2' : R2 L h2 := ⟨O2, O1.fx O2.1 F2.1, by rw [(F2.1.1 197 1 (by decide)).1]; exact q.2, by rw [F2.1.2.1]; exact eL1, T.go F1 F2⟩
  have hv : v = v2 := q.1
  have S := R.1.1
  have S1 := Q1.1
  have eL : zh_L h = L := R.2.2.2.1
  have gi0 := gi_0 hk hL
  have gi1 := gi_1 hk hL
  have gi2 := gi_2 hk hL
  have gi3 := gi_3 hk hL
  have gi4 := gi_4 hk hL
  exact ⟨h2, by simp +decide only [b243_26_c0, b243_156, b243_165, b243_175, S.n, S.k, S1.n, S1.k, kx_0, kx_211, eL, eL1, gi0, gi1, gi2, gi3, gi4, hx, e1, e2, Option.bind_some, Option.toList_some, Option.toList_none, List.cons_append, List.nil_append, ↓reduceIte, hv], R2'⟩
theorem lw_1 (R : R2 L h) {k : Nat} (hk : k + 5 ≤ L) (hL : L ≤ 2560) (hx : zh_x h (nI k).toNatClampNeg &&& 31 = 1) : LW L k h := by
  obtain ⟨r, g, e, l, T⟩ := id R
  obtain ⟨v, h1, e1, O1, F1, D1⟩ := c_end g (zh_x h (nI k + 1).toNatClampNeg) (u := .double 0)
  have Q1 : RO h1 := r.fc O1.1 F1.1
  have eL1 : zh_L h1 = L := by rw [F1.1.2.1]; exact l
  obtain ⟨v2, h2, e2, O2, F2, D2⟩ := o_end Q1 (zh_x h1 (nI k + 1).toNatClampNeg) (u := .double 0)
  have q := ED.eq D1 (by rw [F1.1.2.2, (F1.1.1 211 8 (by decide)).1, ← e] at D2; exact D2)
  have R2' : R2 L h2 := ⟨O2, O1.fx O2.1 F2.1, by rw [(F2.1.1 197 1 (by decide)).1]; exact q.2, by rw [F2.1.2.1]; exact eL1, T.go F1 F2⟩
  have hv : v = v2 := q.1
  have S := R.1.1
  have S1 := Q1.1
  have eL : zh_L h = L := R.2.2.2.1
  have gi0 := gi_0 hk hL
  have gi1 := gi_1 hk hL
  have gi2 := gi_2 hk hL
  have gi3 := gi_3 hk hL
  have gi4 := gi_4 hk hL
  exact ⟨h2, by simp +decide only [b243_26_c1, b243_179, b243_188, b243_198, S.n, S.k, S1.n, S1.k, kx_0, kx_211, eL, eL1, gi0, gi1, gi2, gi3, gi4, hx, e1, e2, Option.bind_some, Option.toList_some, Option.toList_none, List.cons_append, List.nil_append, ↓reduceIte, hv], R2'⟩
theorem lw_2 (R : R2 L h) {k : Nat} (hk : k + 5 ≤ L) (hL : L ≤ 2560) (hx : zh_x h (nI k).toNatClampNeg &&& 31 = 2) : LW L k h := by
  obtain ⟨r, g, e, l, T⟩ := id R
  obtain ⟨t, ht, et⟩ := r.2.2.1
  obtain ⟨v, h1, e1, O1, F1, l1⟩ := c_text g ht (e.trans et)
  have Q1 : RO h1 := r.fc O1.1 F1.1
  have eL1 : zh_L h1 = L := by rw [F1.1.2.1]; exact l
  obtain ⟨v2, h2, e2, O2, F2, l2⟩ := o_text Q1 (u1 := .double 0) (u2 := .double 0)
  have R2' : R2 L h2 := ⟨O2, O1.fx O2.1 F2.1, by rw [(F2.1.1 197 1 (by decide)).1, l1, l2], by rw [F2.1.2.1]; exact eL1, T.go F1 F2⟩
  have hv : True := trivial
  have S := R.1.1
  have S1 := Q1.1
  have eL : zh_L h = L := R.2.2.2.1
  have gi0 := gi_0 hk hL
  have gi1 := gi_1 hk hL
  have gi2 := gi_2 hk hL
  have gi3 := gi_3 hk hL
  have gi4 := gi_4 hk hL
  exact ⟨h2, by simp +decide only [b243_26_c2, b243_202, b243_206, b243_211, S.n, S.k, S1.n, S1.k, kx_0, kx_211, eL, eL1, gi0, gi1, gi2, gi3, gi4, hx, e1, e2, Option.bind_some, Option.toList_some, Option.toList_none, List.cons_append, List.nil_append, ↓reduceIte, hv], R2'⟩
theorem lw_3 (R : R2 L h) {k : Nat} (hk : k + 5 ≤ L) (hL : L ≤ 2560) (hx : zh_x h (nI k).toNatClampNeg &&& 31 = 3) : LW L k h := by
  have c1 : CC h (zv 1 108 0 [.ref 0] [] h) := c_fault R.2.1 
  obtain ⟨v, h1, e1, Q1, eL1, next⟩ := R.cc c1
  have c2 : RC h1 (zv 1 193 0 [.ref 211] [] h1) := o_fault Q1 
  obtain ⟨v2, h2, e2, R2'⟩ := next c2
  have S := R.1.1
  have S1 := Q1.1
  have eL : zh_L h = L := R.2.2.2.1
  have gi0 := gi_0 hk hL
  have gi1 := gi_1 hk hL
  have gi2 := gi_2 hk hL
  have gi3 := gi_3 hk hL
  have gi4 := gi_4 hk hL
  exact ⟨h2, by simp +decide only [b243_26_c3, b243_215, b243_219, b243_224, S.n, S.k, S1.n, S1.k, kx_0, kx_211, eL, eL1, gi0, gi1, gi2, gi3, gi4, hx, e1, e2, Option.bind_some, Option.toList_some, Option.toList_none, List.cons_append, List.nil_append, ↓reduceIte], R2'⟩
theorem lw_4 (R : R2 L h) {k : Nat} (hk : k + 5 ≤ L) (hL : L ≤ 2560) (hx : zh_x h (nI k).toNatClampNeg &&& 31 = 4) : LW L k h := by
  have c1 : CC h (zv 6 109 0 [.ref 0, .int (zh_x h (nI k + 1).toNatClampNeg)] [] h) := c_rule R.2.1 _
  obtain ⟨v, h1, e1, Q1, eL1, next⟩ := R.cc c1
  have c2 : RC h1 (zv 6 201 0 [.ref 211, .int (zh_x h1 (nI k + 1).toNatClampNeg)] [] h1) := o_rule Q1 _
  obtain ⟨v2, h2, e2, R2'⟩ := next c2
  have S := R.1.1
  have S1 := Q1.1
  have eL : zh_L h = L := R.2.2.2.1
  have gi0 := gi_0 hk hL
  have gi1 := gi_1 hk hL
  have gi2 := gi_2 hk hL
  have gi3 := gi_3 hk hL
  have gi4 := gi_4 hk hL
  exact ⟨h2, by simp +decide only [b243_26_c4, b243_228, b243_237, b243_247, S.n, S.k, S1.n, S1.k, kx_0, kx_211, eL, eL1, gi0, gi1, gi2, gi3, gi4, hx, e1, e2, Option.bind_some, Option.toList_some, Option.toList_none, List.cons_append, List.nil_append, ↓reduceIte], R2'⟩
theorem lw_5 (R : R2 L h) {k : Nat} (hk : k + 5 ≤ L) (hL : L ≤ 2560) (hx : zh_x h (nI k).toNatClampNeg &&& 31 = 5) : LW L k h := by
  have c1 : CC h (zv 3 110 0 [.ref 0, .int (zh_x h (nI k + 1).toNatClampNeg), .int (zh_x h (nI k + 2).toNatClampNeg), .double 0] [] h) := c_node R.2.1 _ _
  obtain ⟨v, h1, e1, Q1, eL1, next⟩ := R.cc c1
  have c2 : RC h1 (zv 3 202 0 [.ref 211, .int (zh_x h1 (nI k + 1).toNatClampNeg), .int (zh_x h1 (nI k + 2).toNatClampNeg)] [] h1) := o_node Q1 _ _
  obtain ⟨v2, h2, e2, R2'⟩ := next c2
  have S := R.1.1
  have S1 := Q1.1
  have eL : zh_L h = L := R.2.2.2.1
  have gi0 := gi_0 hk hL
  have gi1 := gi_1 hk hL
  have gi2 := gi_2 hk hL
  have gi3 := gi_3 hk hL
  have gi4 := gi_4 hk hL
  exact ⟨h2, by simp +decide only [b243_26_c5, b243_251, b243_265, b243_280, S.n, S.k, S1.n, S1.k, kx_0, kx_211, eL, eL1, gi0, gi1, gi2, gi3, gi4, hx, e1, e2, Option.bind_some, Option.toList_some, Option.toList_none, List.cons_append, List.nil_append, ↓reduceIte], R2'⟩
theorem lw_6 (R : R2 L h) {k : Nat} (hk : k + 5 ≤ L) (hL : L ≤ 2560) (hx : zh_x h (nI k).toNatClampNeg &&& 31 = 6) : LW L k h := by
  have c1 : CC h (zv 3 111 0 [.ref 0, .int (zh_x h (nI k + 1).toNatClampNeg), .int (zh_x h (nI k + 2).toNatClampNeg), .int (zh_x h (nI k + 3).toNatClampNeg), .double 0] [] h) := c_entry R.2.1 _ _ _
  obtain ⟨v, h1, e1, Q1, eL1, next⟩ := R.cc c1
  have c2 : RC h1 (zv 3 203 0 [.ref 211, .int (zh_x h1 (nI k + 1).toNatClampNeg), .int (zh_x h1 (nI k + 2).toNatClampNeg), .int (zh_x h1 (nI k + 3).toNatClampNeg)] [] h1) := o_entry Q1 _ _ _
  obtain ⟨v2, h2, e2, R2'⟩ := next c2
  have S := R.1.1
  have S1 := Q1.1
  have eL : zh_L h = L := R.2.2.2.1
  have gi0 := gi_0 hk hL
  have gi1 := gi_1 hk hL
  have gi2 := gi_2 hk hL
  have gi3 := gi_3 hk hL
  have gi4 := gi_4 hk hL
  exact ⟨h2, by simp +decide only [b243_26_c6, b243_284, b243_303, b243_323, S.n, S.k, S1.n, S1.k, kx_0, kx_211, eL, eL1, gi0, gi1, gi2, gi3, gi4, hx, e1, e2, Option.bind_some, Option.toList_some, Option.toList_none, List.cons_append, List.nil_append, ↓reduceIte], R2'⟩
theorem lw_7 (R : R2 L h) {k : Nat} (hk : k + 5 ≤ L) (hL : L ≤ 2560) (hx : zh_x h (nI k).toNatClampNeg &&& 31 = 7) : LW L k h := by
  have c1 : CC h (zv 2 112 0 [.ref 0, .int (zh_x h (nI k + 1).toNatClampNeg), .int (zh_x h (nI k + 2).toNatClampNeg), .double 0] [] h) := c_client R.2.1 _ _
  obtain ⟨v, h1, e1, Q1, eL1, next⟩ := R.cc c1
  have c2 : RC h1 (zv 3 204 0 [.ref 211, .int (zh_x h1 (nI k + 1).toNatClampNeg), .int (zh_x h1 (nI k + 2).toNatClampNeg)] [] h1) := o_client Q1 _ _
  obtain ⟨v2, h2, e2, R2'⟩ := next c2
  have S := R.1.1
  have S1 := Q1.1
  have eL : zh_L h = L := R.2.2.2.1
  have gi0 := gi_0 hk hL
  have gi1 := gi_1 hk hL
  have gi2 := gi_2 hk hL
  have gi3 := gi_3 hk hL
  have gi4 := gi_4 hk hL
  exact ⟨h2, by simp +decide only [b243_26_c7, b243_327, b243_341, b243_356, S.n, S.k, S1.n, S1.k, kx_0, kx_211, eL, eL1, gi0, gi1, gi2, gi3, gi4, hx, e1, e2, Option.bind_some, Option.toList_some, Option.toList_none, List.cons_append, List.nil_append, ↓reduceIte], R2'⟩
theorem lw_8 (R : R2 L h) {k : Nat} (hk : k + 5 ≤ L) (hL : L ≤ 2560) (hx : zh_x h (nI k).toNatClampNeg &&& 31 = 8) : LW L k h := by
  have c1 : CC h (zv 2 113 0 [.ref 0, .int (zh_x h (nI k + 1).toNatClampNeg)] [] h) := c_there R.2.1 _
  obtain ⟨v, h1, e1, Q1, eL1, next⟩ := R.cc c1
  have c2 : RC h1 (zv 4 205 0 [.ref 211, .int (zh_x h1 (nI k + 1).toNatClampNeg)] [] h1) := o_there Q1 _
  obtain ⟨v2, h2, e2, R2'⟩ := next c2
  have S := R.1.1
  have S1 := Q1.1
  have eL : zh_L h = L := R.2.2.2.1
  have gi0 := gi_0 hk hL
  have gi1 := gi_1 hk hL
  have gi2 := gi_2 hk hL
  have gi3 := gi_3 hk hL
  have gi4 := gi_4 hk hL
  exact ⟨h2, by simp +decide only [b243_26_c8, b243_360, b243_369, b243_379, S.n, S.k, S1.n, S1.k, kx_0, kx_211, eL, eL1, gi0, gi1, gi2, gi3, gi4, hx, e1, e2, Option.bind_some, Option.toList_some, Option.toList_none, List.cons_append, List.nil_append, ↓reduceIte], R2'⟩
theorem lw_9 (R : R2 L h) {k : Nat} (hk : k + 5 ≤ L) (hL : L ≤ 2560) (hx : zh_x h (nI k).toNatClampNeg &&& 31 = 9) : LW L k h := by
  have c1 : CC h (zv 5 114 0 [.ref 0, .int (zh_x h (nI k + 1).toNatClampNeg), .int (zh_x h (nI k + 2).toNatClampNeg), .int (zh_x h (nI k + 3).toNatClampNeg), .double 0] [] h) := c_begin R.2.1 _ _ _
  obtain ⟨v, h1, e1, Q1, eL1, next⟩ := R.cc c1
  have c2 : RC h1 (zv 5 206 0 [.ref 211, .int (zh_x h1 (nI k + 1).toNatClampNeg), .int (zh_x h1 (nI k + 2).toNatClampNeg), .int (zh_x h1 (nI k + 3).toNatClampNeg), .double 0] [] h1) := o_begin Q1 _ _ _
  obtain ⟨v2, h2, e2, R2'⟩ := next c2
  have S := R.1.1
  have S1 := Q1.1
  have eL : zh_L h = L := R.2.2.2.1
  have gi0 := gi_0 hk hL
  have gi1 := gi_1 hk hL
  have gi2 := gi_2 hk hL
  have gi3 := gi_3 hk hL
  have gi4 := gi_4 hk hL
  exact ⟨h2, by simp +decide only [b243_26_c9, b243_383, b243_402, b243_422, S.n, S.k, S1.n, S1.k, kx_0, kx_211, eL, eL1, gi0, gi1, gi2, gi3, gi4, hx, e1, e2, Option.bind_some, Option.toList_some, Option.toList_none, List.cons_append, List.nil_append, ↓reduceIte], R2'⟩
theorem lw_10 (R : R2 L h) {k : Nat} (hk : k + 5 ≤ L) (hL : L ≤ 2560) (hx : zh_x h (nI k).toNatClampNeg &&& 31 = 10) : LW L k h := by
  have c1 : CC h (zv 6 115 0 [.ref 0, .int (zh_x h (nI k + 1).toNatClampNeg)] [] h) := c_step R.2.1 _
  obtain ⟨v, h1, e1, Q1, eL1, next⟩ := R.cc c1
  have c2 : RC h1 (zv 7 207 0 [.ref 211, .int (zh_x h1 (nI k + 1).toNatClampNeg)] [] h1) := o_step Q1 _
  obtain ⟨v2, h2, e2, R2'⟩ := next c2
  have S := R.1.1
  have S1 := Q1.1
  have eL : zh_L h = L := R.2.2.2.1
  have gi0 := gi_0 hk hL
  have gi1 := gi_1 hk hL
  have gi2 := gi_2 hk hL
  have gi3 := gi_3 hk hL
  have gi4 := gi_4 hk hL
  exact ⟨h2, by simp +decide only [b243_26_c10, b243_426, b243_435, b243_445, S.n, S.k, S1.n, S1.k, kx_0, kx_211, eL, eL1, gi0, gi1, gi2, gi3, gi4, hx, e1, e2, Option.bind_some, Option.toList_some, Option.toList_none, List.cons_append, List.nil_append, ↓reduceIte], R2'⟩
theorem lw_11 (R : R2 L h) {k : Nat} (hk : k + 5 ≤ L) (hL : L ≤ 2560) (hx : zh_x h (nI k).toNatClampNeg &&& 31 = 11) : LW L k h := by
  have c1 : CC h (zv 7 116 0 [.ref 0, .int (zh_x h (nI k + 1).toNatClampNeg), .int (zh_x h (nI k + 2).toNatClampNeg)] [] h) := c_go R.2.1 _ _
  obtain ⟨v, h1, e1, Q1, eL1, next⟩ := R.cc c1
  have c2 : RC h1 (zv 8 208 0 [.ref 211, .int (zh_x h1 (nI k + 1).toNatClampNeg), .int (zh_x h1 (nI k + 2).toNatClampNeg)] [] h1) := o_go Q1 _ _
  obtain ⟨v2, h2, e2, R2'⟩ := next c2
  have S := R.1.1
  have S1 := Q1.1
  have eL : zh_L h = L := R.2.2.2.1
  have gi0 := gi_0 hk hL
  have gi1 := gi_1 hk hL
  have gi2 := gi_2 hk hL
  have gi3 := gi_3 hk hL
  have gi4 := gi_4 hk hL
  exact ⟨h2, by simp +decide only [b243_26_c11, b243_449, b243_463, b243_478, S.n, S.k, S1.n, S1.k, kx_0, kx_211, eL, eL1, gi0, gi1, gi2, gi3, gi4, hx, e1, e2, Option.bind_some, Option.toList_some, Option.toList_none, List.cons_append, List.nil_append, ↓reduceIte], R2'⟩
theorem lw_12 (R : R2 L h) {k : Nat} (hk : k + 5 ≤ L) (hL : L ≤ 2560) (hx : zh_x h (nI k).toNatClampNeg &&& 31 = 12) : LW L k h := by
  have c1 : CC h (zv 2 117 0 [.ref 0, .int (zh_x h (nI k + 1).toNatClampNeg), .double 0] [] h) := c_drop R.2.1 _
  obtain ⟨v, h1, e1, Q1, eL1, next⟩ := R.cc c1
  have c2 : RC h1 (zv 3 209 0 [.ref 211, .int (zh_x h1 (nI k + 1).toNatClampNeg)] [] h1) := o_drop Q1 _
  obtain ⟨v2, h2, e2, R2'⟩ := next c2
  have S := R.1.1
  have S1 := Q1.1
  have eL : zh_L h = L := R.2.2.2.1
  have gi0 := gi_0 hk hL
  have gi1 := gi_1 hk hL
  have gi2 := gi_2 hk hL
  have gi3 := gi_3 hk hL
  have gi4 := gi_4 hk hL
  exact ⟨h2, by simp +decide only [b243_26_c12, b243_482, b243_491, b243_501, S.n, S.k, S1.n, S1.k, kx_0, kx_211, eL, eL1, gi0, gi1, gi2, gi3, gi4, hx, e1, e2, Option.bind_some, Option.toList_some, Option.toList_none, List.cons_append, List.nil_append, ↓reduceIte], R2'⟩
theorem lw_13 (R : R2 L h) {k : Nat} (hk : k + 5 ≤ L) (hL : L ≤ 2560) (hx : zh_x h (nI k).toNatClampNeg &&& 31 = 13) : LW L k h := by
  have c1 : CC h (zv 2 118 0 [.ref 0, .int (zh_x h (nI k + 1).toNatClampNeg), .double 0] [] h) := c_room R.2.1 _
  obtain ⟨v, h1, e1, Q1, eL1, next⟩ := R.cc c1
  have c2 : RC h1 (zv 2 210 0 [.ref 211, .int (zh_x h1 (nI k + 1).toNatClampNeg), .double 0] [] h1) := o_room Q1 _
  obtain ⟨v2, h2, e2, R2'⟩ := next c2
  have S := R.1.1
  have S1 := Q1.1
  have eL : zh_L h = L := R.2.2.2.1
  have gi0 := gi_0 hk hL
  have gi1 := gi_1 hk hL
  have gi2 := gi_2 hk hL
  have gi3 := gi_3 hk hL
  have gi4 := gi_4 hk hL
  exact ⟨h2, by simp +decide only [b243_26_c13, b243_505, b243_514, b243_524, S.n, S.k, S1.n, S1.k, kx_0, kx_211, eL, eL1, gi0, gi1, gi2, gi3, gi4, hx, e1, e2, Option.bind_some, Option.toList_some, Option.toList_none, List.cons_append, List.nil_append, ↓reduceIte], R2'⟩
theorem lw_14 (R : R2 L h) {k : Nat} (hk : k + 5 ≤ L) (hL : L ≤ 2560) (hx : zh_x h (nI k).toNatClampNeg &&& 31 = 14) : LW L k h := by
  have c1 : CC h (zv 17 119 0 [.ref 0, .int (zh_x h (nI k + 1).toNatClampNeg), .int (zh_x h (nI k + 2).toNatClampNeg)] [] h) := c_rows R.2.1 _ _
  obtain ⟨v, h1, e1, Q1, eL1, next⟩ := R.cc c1
  have c2 : RC h1 (zv 8 218 0 [.ref 211, .int (zh_x h1 (nI k + 1).toNatClampNeg), .int (zh_x h1 (nI k + 2).toNatClampNeg)] [] h1) := o_rows Q1 _ _
  obtain ⟨v2, h2, e2, R2'⟩ := next c2
  have S := R.1.1
  have S1 := Q1.1
  have eL : zh_L h = L := R.2.2.2.1
  have gi0 := gi_0 hk hL
  have gi1 := gi_1 hk hL
  have gi2 := gi_2 hk hL
  have gi3 := gi_3 hk hL
  have gi4 := gi_4 hk hL
  exact ⟨h2, by simp +decide only [b243_26_c14, b243_528, b243_542, b243_557, S.n, S.k, S1.n, S1.k, kx_0, kx_211, eL, eL1, gi0, gi1, gi2, gi3, gi4, hx, e1, e2, Option.bind_some, Option.toList_some, Option.toList_none, List.cons_append, List.nil_append, ↓reduceIte], R2'⟩
theorem lw_15 (R : R2 L h) {k : Nat} (hk : k + 5 ≤ L) (hL : L ≤ 2560) (hx : zh_x h (nI k).toNatClampNeg &&& 31 = 15) : LW L k h := by
  have c1 : CC h (zv 17 120 0 [.ref 0, .int (zh_x h (nI k + 1).toNatClampNeg), .int (zh_x h (nI k + 2).toNatClampNeg), .int (zh_x h (nI k + 3).toNatClampNeg)] [] h) := c_answers R.2.1 _ _ _
  obtain ⟨v, h1, e1, Q1, eL1, next⟩ := R.cc c1
  have c2 : RC h1 (zv 8 220 0 [.ref 211, .int (zh_x h1 (nI k + 1).toNatClampNeg), .int (zh_x h1 (nI k + 2).toNatClampNeg), .int (zh_x h1 (nI k + 3).toNatClampNeg)] [] h1) := o_answers Q1 _ _ _
  obtain ⟨v2, h2, e2, R2'⟩ := next c2
  have S := R.1.1
  have S1 := Q1.1
  have eL : zh_L h = L := R.2.2.2.1
  have gi0 := gi_0 hk hL
  have gi1 := gi_1 hk hL
  have gi2 := gi_2 hk hL
  have gi3 := gi_3 hk hL
  have gi4 := gi_4 hk hL
  exact ⟨h2, by simp +decide only [b243_26_c15, b243_561, b243_580, b243_600, S.n, S.k, S1.n, S1.k, kx_0, kx_211, eL, eL1, gi0, gi1, gi2, gi3, gi4, hx, e1, e2, Option.bind_some, Option.toList_some, Option.toList_none, List.cons_append, List.nil_append, ↓reduceIte], R2'⟩
theorem lw_16 (R : R2 L h) {k : Nat} (hk : k + 5 ≤ L) (hL : L ≤ 2560) (hx : zh_x h (nI k).toNatClampNeg &&& 31 = 16) : LW L k h := by
  have c1 : CC h (zv 17 121 0 [.ref 0, .int (zh_x h (nI k + 1).toNatClampNeg), .int (zh_x h (nI k + 2).toNatClampNeg), .int (zh_x h (nI k + 3).toNatClampNeg)] [] h) := c_first R.2.1 _ _ _
  obtain ⟨v, h1, e1, Q1, eL1, next⟩ := R.cc c1
  have c2 : RC h1 (zv 8 221 0 [.ref 211, .int (zh_x h1 (nI k + 1).toNatClampNeg), .int (zh_x h1 (nI k + 2).toNatClampNeg), .int (zh_x h1 (nI k + 3).toNatClampNeg)] [] h1) := o_first Q1 _ _ _
  obtain ⟨v2, h2, e2, R2'⟩ := next c2
  have S := R.1.1
  have S1 := Q1.1
  have eL : zh_L h = L := R.2.2.2.1
  have gi0 := gi_0 hk hL
  have gi1 := gi_1 hk hL
  have gi2 := gi_2 hk hL
  have gi3 := gi_3 hk hL
  have gi4 := gi_4 hk hL
  exact ⟨h2, by simp +decide only [b243_26_c16, b243_604, b243_623, b243_643, S.n, S.k, S1.n, S1.k, kx_0, kx_211, eL, eL1, gi0, gi1, gi2, gi3, gi4, hx, e1, e2, Option.bind_some, Option.toList_some, Option.toList_none, List.cons_append, List.nil_append, ↓reduceIte], R2'⟩
theorem lw_17 (R : R2 L h) {k : Nat} (hk : k + 5 ≤ L) (hL : L ≤ 2560) (hx : zh_x h (nI k).toNatClampNeg &&& 31 = 17) : LW L k h := by
  have c1 : CL h (zv 17 122 0 [.ref 0, .int (zh_x h (nI k + 1).toNatClampNeg), .int (zh_x h (nI k + 2).toNatClampNeg), .int (zh_x h (nI k + 3).toNatClampNeg), .int (zh_x h (nI k + 4).toNatClampNeg), .double 0, .double 0] [] h) := c_chance R.2.1 _ _ _ _
  obtain ⟨v, h1, e1, Q1, eL1, next⟩ := R.ccl c1
  have c2 : RCl h1 (zv 8 223 0 [.ref 211, .int (zh_x h1 (nI k + 1).toNatClampNeg), .int (zh_x h1 (nI k + 2).toNatClampNeg), .int (zh_x h1 (nI k + 3).toNatClampNeg), .int (zh_x h1 (nI k + 4).toNatClampNeg), .double 0, .double 0] [] h1) := o_chance Q1 _ _ _ _
  obtain ⟨v2, h2, e2, R2'⟩ := next c2
  have S := R.1.1
  have S1 := Q1.1
  have eL : zh_L h = L := R.2.2.2.1
  have gi0 := gi_0 hk hL
  have gi1 := gi_1 hk hL
  have gi2 := gi_2 hk hL
  have gi3 := gi_3 hk hL
  have gi4 := gi_4 hk hL
  exact ⟨h2, by simp +decide only [b243_26_c17, b243_647, b243_671, b243_696, S.n, S.k, S1.n, S1.k, kx_0, kx_211, eL, eL1, gi0, gi1, gi2, gi3, gi4, hx, e1, e2, Option.bind_some, Option.toList_some, Option.toList_none, List.cons_append, List.nil_append, ↓reduceIte], R2'⟩
theorem lw_18 (R : R2 L h) {k : Nat} (hk : k + 5 ≤ L) (hL : L ≤ 2560) (hx : zh_x h (nI k).toNatClampNeg &&& 31 = 18) : LW L k h := by
  have c1 : CC h (zv 6 123 0 [.ref 0, .double 0] [] h) := c_check R.2.1 
  obtain ⟨v, h1, e1, Q1, eL1, next⟩ := R.cc c1
  have c2 : RC h1 (zv 5 230 0 [.ref 211] [] h1) := o_check Q1 
  obtain ⟨v2, h2, e2, R2'⟩ := next c2
  have S := R.1.1
  have S1 := Q1.1
  have eL : zh_L h = L := R.2.2.2.1
  have gi0 := gi_0 hk hL
  have gi1 := gi_1 hk hL
  have gi2 := gi_2 hk hL
  have gi3 := gi_3 hk hL
  have gi4 := gi_4 hk hL
  exact ⟨h2, by simp +decide only [b243_26_c18, b243_700, b243_704, b243_709, S.n, S.k, S1.n, S1.k, kx_0, kx_211, eL, eL1, gi0, gi1, gi2, gi3, gi4, hx, e1, e2, Option.bind_some, Option.toList_some, Option.toList_none, List.cons_append, List.nil_append, ↓reduceIte], R2'⟩
theorem lw_19 (R : R2 L h) {k : Nat} (hk : k + 5 ≤ L) (hL : L ≤ 2560) (hx : zh_x h (nI k).toNatClampNeg &&& 31 = 19) : LW L k h := by
  have c1 : CC h (zv 4 124 0 [.ref 0, .int (zh_x h (nI k + 1).toNatClampNeg)] [] h) := c_leaf R.2.1 _
  obtain ⟨v, h1, e1, Q1, eL1, next⟩ := R.cc c1
  have c2 : RC h1 (zv 2 231 0 [.ref 211, .int (zh_x h1 (nI k + 1).toNatClampNeg), .double 0, .double 0] [] h1) := o_leaf Q1 _
  obtain ⟨v2, h2, e2, R2'⟩ := next c2
  have S := R.1.1
  have S1 := Q1.1
  have eL : zh_L h = L := R.2.2.2.1
  have gi0 := gi_0 hk hL
  have gi1 := gi_1 hk hL
  have gi2 := gi_2 hk hL
  have gi3 := gi_3 hk hL
  have gi4 := gi_4 hk hL
  exact ⟨h2, by simp +decide only [b243_26_c19, b243_713, b243_722, b243_732, S.n, S.k, S1.n, S1.k, kx_0, kx_211, eL, eL1, gi0, gi1, gi2, gi3, gi4, hx, e1, e2, Option.bind_some, Option.toList_some, Option.toList_none, List.cons_append, List.nil_append, ↓reduceIte], R2'⟩
theorem lw_20 (R : R2 L h) {k : Nat} (hk : k + 5 ≤ L) (hL : L ≤ 2560) (hx : zh_x h (nI k).toNatClampNeg &&& 31 = 20) : LW L k h := by
  have c1 : CC h (zv 3 125 0 [.ref 0, .int (zh_x h (nI k + 1).toNatClampNeg), .double 0] [] h) := c_keep R.2.1 _
  obtain ⟨v, h1, e1, Q1, eL1, next⟩ := R.cc c1
  have c2 : RC h1 (zv 2 232 0 [.ref 211, .int (zh_x h1 (nI k + 1).toNatClampNeg), .double 0, .double 0] [] h1) := o_keep Q1 _
  obtain ⟨v2, h2, e2, R2'⟩ := next c2
  have S := R.1.1
  have S1 := Q1.1
  have eL : zh_L h = L := R.2.2.2.1
  have gi0 := gi_0 hk hL
  have gi1 := gi_1 hk hL
  have gi2 := gi_2 hk hL
  have gi3 := gi_3 hk hL
  have gi4 := gi_4 hk hL
  exact ⟨h2, by simp +decide only [b243_26_c20, b243_736, b243_745, b243_755, S.n, S.k, S1.n, S1.k, kx_0, kx_211, eL, eL1, gi0, gi1, gi2, gi3, gi4, hx, e1, e2, Option.bind_some, Option.toList_some, Option.toList_none, List.cons_append, List.nil_append, ↓reduceIte], R2'⟩
theorem lw_21 (R : R2 L h) {k : Nat} (hk : k + 5 ≤ L) (hL : L ≤ 2560) (hx : zh_x h (nI k).toNatClampNeg &&& 31 = 21) : LW L k h := by
  have c1 : CC h (zv 3 126 0 [.ref 0, .int (zh_x h (nI k + 1).toNatClampNeg)] [] h) := c_back R.2.1 _
  obtain ⟨v, h1, e1, Q1, eL1, next⟩ := R.cc c1
  have c2 : RC h1 (zv 2 233 0 [.ref 211, .int (zh_x h1 (nI k + 1).toNatClampNeg), .double 0] [] h1) := o_back Q1 _
  obtain ⟨v2, h2, e2, R2'⟩ := next c2
  have S := R.1.1
  have S1 := Q1.1
  have eL : zh_L h = L := R.2.2.2.1
  have gi0 := gi_0 hk hL
  have gi1 := gi_1 hk hL
  have gi2 := gi_2 hk hL
  have gi3 := gi_3 hk hL
  have gi4 := gi_4 hk hL
  exact ⟨h2, by simp +decide only [b243_26_c21, b243_759, b243_768, b243_778, S.n, S.k, S1.n, S1.k, kx_0, kx_211, eL, eL1, gi0, gi1, gi2, gi3, gi4, hx, e1, e2, Option.bind_some, Option.toList_some, Option.toList_none, List.cons_append, List.nil_append, ↓reduceIte], R2'⟩
theorem lw_22 (R : R2 L h) {k : Nat} (hk : k + 5 ≤ L) (hL : L ≤ 2560) (hx : zh_x h (nI k).toNatClampNeg &&& 31 = 22) : LW L k h := by
  obtain ⟨r, g, e, l, T⟩ := id R
  obtain ⟨h1, e1, O1, F1, t1, E1⟩ := c_sheet g (zh_x h (nI k + 1).toNatClampNeg) (zh_x h (nI k + 2).toNatClampNeg) (zh_x h (nI k + 3).toNatClampNeg)
  have Q1 : RO h1 := r.fc O1.1 F1
  have eL1 : zh_L h1 = L := by rw [F1.2.1]; exact l
  obtain ⟨h2, e2, O2, F2, t2, E2⟩ := o_sheet Q1 (zh_x h1 (nI k + 1).toNatClampNeg) (zh_x h1 (nI k + 2).toNatClampNeg) (zh_x h1 (nI k + 3).toNatClampNeg) (u := .double 0)
  have E2' := E2
  rw [F1.2.2] at E2'
  have R2' : R2 L h2 := ⟨O2, O1.fx O2.1 F2, by rw [(F2.1 197 1 (by decide)).1, t1, e, t2, (F1.1 211 8 (by decide)).1], by rw [F2.2.1]; exact eL1, T.sheet F1 E1 F2 E2'⟩
  have hv : shV (zh_x h (nI k + 1).toNatClampNeg) (zh_x h (nI k + 2).toNatClampNeg) (zh_x h (nI k + 3).toNatClampNeg) = shV (zh_x h1 (nI k + 1).toNatClampNeg) (zh_x h1 (nI k + 2).toNatClampNeg) (zh_x h1 (nI k + 3).toNatClampNeg) := by rw [F1.2.2]
  have S := R.1.1
  have S1 := Q1.1
  have eL : zh_L h = L := R.2.2.2.1
  have gi0 := gi_0 hk hL
  have gi1 := gi_1 hk hL
  have gi2 := gi_2 hk hL
  have gi3 := gi_3 hk hL
  have gi4 := gi_4 hk hL
  exact ⟨h2, by simp +decide only [b243_26_c22, b243_782, b243_801, b243_821, S.n, S.k, S1.n, S1.k, kx_0, kx_211, eL, eL1, gi0, gi1, gi2, gi3, gi4, hx, e1, e2, Option.bind_some, Option.toList_some, Option.toList_none, List.cons_append, List.nil_append, ↓reduceIte, hv], R2'⟩
theorem lw_23 (R : R2 L h) {k : Nat} (hk : k + 5 ≤ L) (hL : L ≤ 2560) (hx : zh_x h (nI k).toNatClampNeg &&& 31 = 23) : LW L k h := by
  obtain ⟨r, g, e, l, T⟩ := id R
  obtain ⟨v, h1, e1, O1, F1, D1⟩ := c_layv g (zh_x h (nI k + 1).toNatClampNeg) (zh_x h (nI k + 2).toNatClampNeg) (zh_x h (nI k + 3).toNatClampNeg) (u := .double 0)
  have Q1 : RO h1 := r.fc O1.1 F1.1.1
  have eL1 : zh_L h1 = L := by rw [F1.1.1.2.1]; exact l
  obtain ⟨v2, h2, e2, O2, F2, D2⟩ := o_layv Q1 (zh_x h1 (nI k + 1).toNatClampNeg) (zh_x h1 (nI k + 2).toNatClampNeg) (zh_x h1 (nI k + 3).toNatClampNeg)
  have b0 : zh_i h1 230 = zh_i h 230 := funext (fun k => (F1.1.1.1 230 k (by decide)).1)
  have b1 : zh_i h1 231 = zh_i h 231 := funext (fun k => (F1.1.1.1 231 k (by decide)).1)
  have R2' : R2 L h2 := ⟨O2, O1.fx O2.1 F2.1.1, by rw [(F2.1.1.1 197 1 (by decide)).1, F1.2, e, F2.2, (F1.1.1.1 211 8 (by decide)).1], by rw [F2.1.1.2.1]; exact eL1, T.go F1.1 F2.1⟩
  have hv : v = v2 := ly_eq T D1 (by rw [F1.1.1.2.2, b0, b1] at D2; exact D2)
  have S := R.1.1
  have S1 := Q1.1
  have eL : zh_L h = L := R.2.2.2.1
  have gi0 := gi_0 hk hL
  have gi1 := gi_1 hk hL
  have gi2 := gi_2 hk hL
  have gi3 := gi_3 hk hL
  have gi4 := gi_4 hk hL
  exact ⟨h2, by simp +decide only [b243_26_c23, b243_825, b243_844, b243_863, S.n, S.k, S1.n, S1.k, kx_0, kx_211, eL, eL1, gi0, gi1, gi2, gi3, gi4, hx, e1, e2, Option.bind_some, Option.toList_some, Option.toList_none, List.cons_append, List.nil_append, ↓reduceIte, hv], R2'⟩
theorem lw_24 (R : R2 L h) {k : Nat} (hk : k + 5 ≤ L) (hL : L ≤ 2560) (hx : zh_x h (nI k).toNatClampNeg &&& 31 = 24) : LW L k h := by
  have c1 : CC h (zv 8 129 0 [.ref 0, .int (zh_x h (nI k + 1).toNatClampNeg), .int (zh_x h (nI k + 2).toNatClampNeg), .int (zh_x h (nI k + 3).toNatClampNeg), .int (zh_x h (nI k + 4).toNatClampNeg), .double 0, .double 0] [] h) := c_read R.2.1 _ _ _ _
  obtain ⟨v, h1, e1, Q1, eL1, next⟩ := R.cc c1
  have c2 : RC h1 (zv 8 237 0 [.ref 211, .int (zh_x h1 (nI k + 1).toNatClampNeg), .int (zh_x h1 (nI k + 2).toNatClampNeg), .int (zh_x h1 (nI k + 3).toNatClampNeg), .int (zh_x h1 (nI k + 4).toNatClampNeg), .double 0, .double 0, .double 0, .double 0, .double 0, .double 0] [] h1) := o_read Q1 _ _ _ _
  obtain ⟨v2, h2, e2, R2'⟩ := next c2
  have S := R.1.1
  have S1 := Q1.1
  have eL : zh_L h = L := R.2.2.2.1
  have gi0 := gi_0 hk hL
  have gi1 := gi_1 hk hL
  have gi2 := gi_2 hk hL
  have gi3 := gi_3 hk hL
  have gi4 := gi_4 hk hL
  exact ⟨h2, by simp +decide only [b243_26_c24, b243_868, b243_892, b243_917, S.n, S.k, S1.n, S1.k, kx_0, kx_211, eL, eL1, gi0, gi1, gi2, gi3, gi4, hx, e1, e2, Option.bind_some, Option.toList_some, Option.toList_none, List.cons_append, List.nil_append, ↓reduceIte], R2'⟩
theorem lw_25 (R : R2 L h) {k : Nat} (hk : k + 5 ≤ L) (hL : L ≤ 2560) (hx : zh_x h (nI k).toNatClampNeg &&& 31 = 25) : LW L k h := by
  have c1 : CC h (zv 1 130 0 [.ref 0] [] h) := c_torn R.2.1 
  obtain ⟨v, h1, e1, Q1, eL1, next⟩ := R.cc c1
  have c2 : RC h1 (zv 1 238 0 [.ref 211] [] h1) := o_torn Q1 
  obtain ⟨v2, h2, e2, R2'⟩ := next c2
  have S := R.1.1
  have S1 := Q1.1
  have eL : zh_L h = L := R.2.2.2.1
  have gi0 := gi_0 hk hL
  have gi1 := gi_1 hk hL
  have gi2 := gi_2 hk hL
  have gi3 := gi_3 hk hL
  have gi4 := gi_4 hk hL
  exact ⟨h2, by simp +decide only [b243_26_c25, b243_921, b243_925, b243_930, S.n, S.k, S1.n, S1.k, kx_0, kx_211, eL, eL1, gi0, gi1, gi2, gi3, gi4, hx, e1, e2, Option.bind_some, Option.toList_some, Option.toList_none, List.cons_append, List.nil_append, ↓reduceIte], R2'⟩
theorem lw_26 (R : R2 L h) {k : Nat} (hk : k + 5 ≤ L) (hL : L ≤ 2560) (hx : zh_x h (nI k).toNatClampNeg &&& 31 = 26) : LW L k h := by
  have c1 : CC h (zv 4 131 0 [.ref 0, .int (zh_x h (nI k + 1).toNatClampNeg)] [] h) := c_count R.2.1 _
  obtain ⟨v, h1, e1, Q1, eL1, next⟩ := R.cc c1
  have c2 : RC h1 (zv 3 240 0 [.ref 211, .int (zh_x h1 (nI k + 1).toNatClampNeg)] [] h1) := o_count Q1 _
  obtain ⟨v2, h2, e2, R2'⟩ := next c2
  have S := R.1.1
  have S1 := Q1.1
  have eL : zh_L h = L := R.2.2.2.1
  have gi0 := gi_0 hk hL
  have gi1 := gi_1 hk hL
  have gi2 := gi_2 hk hL
  have gi3 := gi_3 hk hL
  have gi4 := gi_4 hk hL
  exact ⟨h2, by simp +decide only [b243_26_c26, b243_934, b243_943, b243_953, S.n, S.k, S1.n, S1.k, kx_0, kx_211, eL, eL1, gi0, gi1, gi2, gi3, gi4, hx, e1, e2, Option.bind_some, Option.toList_some, Option.toList_none, List.cons_append, List.nil_append, ↓reduceIte], R2'⟩
theorem lw_d (R : R2 L h) {k : Nat} (hk : k + 5 ≤ L) (hL : L ≤ 2560) (hx : (zh_x h (nI k).toNatClampNeg &&& 31).toInt < 0 ∨ 26 < (zh_x h (nI k).toNatClampNeg &&& 31).toInt) : LW L k h := by
  have eL : zh_L h = L := R.2.2.2.1
  exact ⟨h, by rw [b243_26_d (by rw [eL]; exact gi_0 hk hL) hx], R⟩
theorem fn_26 {x : Int32} (h : ¬ (x.toInt < 0 ∨ 26 < x.toInt)) : ∃ j, j ≤ 26 ∧ x = nI j := by
  refine ⟨x.toInt.toNat, by omega, ?_⟩
  apply Int32.toInt_inj.mp
  rw [nI_toInt (by omega)]
  omega
theorem lw_any (R : R2 L h) {k : Nat} (hk : k + 5 ≤ L) (hL : L ≤ 2560) : LW L k h := by
  by_cases hd : (zh_x h (nI k).toNatClampNeg &&& 31).toInt < 0 ∨ 26 < (zh_x h (nI k).toNatClampNeg &&& 31).toInt
  · exact lw_d R hk hL hd
  · obtain ⟨j, hj, e⟩ := fn_26 hd
    have : j = 0 ∨ j = 1 ∨ j = 2 ∨ j = 3 ∨ j = 4 ∨ j = 5 ∨ j = 6 ∨ j = 7 ∨ j = 8 ∨ j = 9 ∨ j = 10 ∨ j = 11 ∨ j = 12 ∨ j = 13 ∨ j = 14 ∨ j = 15 ∨ j = 16 ∨ j = 17 ∨ j = 18 ∨ j = 19 ∨ j = 20 ∨ j = 21 ∨ j = 22 ∨ j = 23 ∨ j = 24 ∨ j = 25 ∨ j = 26 := by omega
    rcases this with rfl | rfl | rfl | rfl | rfl | rfl | rfl | rfl | rfl | rfl | rfl | rfl | rfl | rfl | rfl | rfl | rfl | rfl | rfl | rfl | rfl | rfl | rfl | rfl | rfl | rfl | rfl
    · exact lw_0 R hk hL e
    · exact lw_1 R hk hL e
    · exact lw_2 R hk hL e
    · exact lw_3 R hk hL e
    · exact lw_4 R hk hL e
    · exact lw_5 R hk hL e
    · exact lw_6 R hk hL e
    · exact lw_7 R hk hL e
    · exact lw_8 R hk hL e
    · exact lw_9 R hk hL e
    · exact lw_10 R hk hL e
    · exact lw_11 R hk hL e
    · exact lw_12 R hk hL e
    · exact lw_13 R hk hL e
    · exact lw_14 R hk hL e
    · exact lw_15 R hk hL e
    · exact lw_16 R hk hL e
    · exact lw_17 R hk hL e
    · exact lw_18 R hk hL e
    · exact lw_19 R hk hL e
    · exact lw_20 R hk hL e
    · exact lw_21 R hk hL e
    · exact lw_22 R hk hL e
    · exact lw_23 R hk hL e
    · exact lw_24 R hk hL e
    · exact lw_25 R hk hL e
    · exact lw_26 R hk hL e
/-- the loop -/
theorem law_lp (hL : L ≤ 2560) : ∀ d k, k + d = L + 5 → ∀ {h : zi_Hp}, R2 L h → 5 ≤ L → ∃ hF, zv 18 243 18 [.retAddr 0, .ref 0, .ref 211, .int (nI k)] [] h = some (some (.int 1), hF) ∧ Sh hF := by
  intro d
  induction d using Nat.strongRecOn with
  | ind d ih =>
    intro k hk h R h5
    have eL : zh_L h = L := R.2.2.2.1
    have e5 : Int32.ofNat L - 5 = nI (L - 5) := nI_sub (a := L) (b := 5) h5
    rw [b243_18, eL, e5]
    by_cases q : nI (L - 5) < nI k
    · exact ⟨h, by rw [if_pos q, b243_963], R.1.1⟩
    · have hkL : k + 5 ≤ L := by
        rw [nI_ltI (by omega) (by omega)] at q; omega
      obtain ⟨h', e, R'⟩ := lw_any R hkL hL
      rw [if_neg q, e, b243_957, show nI k + 5 = nI (k + 5) from nI_add k 5]
      exact ih (d - 5) (by omega) (k + 5) (by omega) R' h5
theorem law_sh (hL : L < 5) (eL : zh_L h = L) : zv 18 243 18 [.retAddr 0, .ref 0, .ref 211, .int 0] [] h = some (some (.int 1), h) := by
  have q : Int32.ofNat L - 5 < 0 := by
    have : L = 0 ∨ L = 1 ∨ L = 2 ∨ L = 3 ∨ L = 4 := by omega
    rcases this with rfl | rfl | rfl | rfl | rfl <;> decide
  rw [b243_18, eL, if_pos q, b243_963]
theorem zF_R2 {xs : Nat → Int32} : R2 L (zF L xs) := by
  refine ⟨⟨zF_Sh, ?_, ⟨⟨0, by decide, rfl⟩, fun k hk hb => ?_, fun k hk => ?_⟩⟩, ⟨zF_Sh, fun W V => ?_⟩, rfl, rfl, fun k hk => ?_⟩
  · refine fs_inv (v := 3) (by decide) (by decide) (fun j hj => ?_)
    rw [zF_i, ix_212]; rfl
  · have : k = 0 ∨ k = 1 := by omega
    rcases this with rfl | rfl
    · rw [show zh_b (zF L xs) 214 0 = false from rfl] at hb; exact absurd hb (by decide)
    · rw [show zh_b (zF L xs) 214 1 = false from rfl] at hb; exact absurd hb (by decide)
  · have : k = 0 ∨ k = 1 ∨ k = 2 ∨ k = 3 := by omega
    rcases this with rfl | rfl | rfl | rfl <;> exact ⟨0, by decide, rfl⟩
  · unfold Wa at V
    rcases V with rfl | rfl | rfl | rfl | rfl | rfl | rfl | rfl | rfl | rfl | rfl | rfl
    all_goals
      refine Gw.fresh (v := 3) (by decide) (by decide) rfl rfl rfl rfl rfl rfl rfl rfl (fun c hc => ?_)
      have : c = 0 ∨ c = 1 ∨ c = 2 := by omega
      rcases this with rfl | rfl | rfl <;> rfl
  · have : k = 0 ∨ k = 1 ∨ k = 2 ∨ k = 3 := by omega
    rcases this with rfl | rfl | rfl | rfl <;> exact Or.inl ⟨rfl, rfl⟩
theorem law_all {xs : Nat → Int32} (hL : L ≤ 2560) : ∃ hF, zv 18 243 0 [.retAddr 0, .double 0, .double 0, .double 0] [] (zi_h0 L xs) = some (some (.int 1), hF) ∧ Sh hF := by
  rw [ct243]
  by_cases h5 : 5 ≤ L
  · exact law_lp hL (L + 5) 0 (Nat.zero_add _) zF_R2 h5
  · exact ⟨_, law_sh (L := L) (by omega) rfl, zF_Sh⟩
end R35
