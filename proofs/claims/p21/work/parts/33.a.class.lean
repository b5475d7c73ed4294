/-! THE CLASS: what always holds of its memory -/
def wx (h : zi_Hp) (W : Nat) : Nat → Nat → Int32 := fun o j => zh_i h (W + o) j
def wy (h : zi_Hp) (W : Nat) : Nat → Nat → Bool := fun o j => zh_b h (W + o) j
theorem zC_wx {h : zi_Hp} {W : Nat} : zC h W (wx h W) (wy h W) = h := zC_id
def GO (h : zi_Hp) : Prop := Sh h ∧ ∀ W, Wa W → Gw (wx h W) (wy h W)
/-- the reference's cells stay -/
def Fb (h h' : zi_Hp) : Prop := (∀ a j, 211 ≤ a → zh_i h' a j = zh_i h a j ∧ zh_b h' a j = zh_b h a j ∧ zh_l h' a j = zh_l h a j) ∧ zh_L h' = zh_L h ∧ zh_x h' = zh_x h
/-- lanes and lengths of the sheets too -/
def Fy (h h' : zi_Hp) : Prop := Fb h h' ∧ ∀ k, zh_i h' 204 k = zh_i h 204 k ∧ zh_i h' 205 k = zh_i h 205 k
/-- and the length of the text -/
def Fc (h h' : zi_Hp) : Prop := Fy h h' ∧ zh_i h' 197 1 = zh_i h 197 1
def CC (h : zi_Hp) (o : Option zi_Rt) : Prop := ∃ v h', o = some (some (.int v), h') ∧ GO h' ∧ Fc h h'
def CV (h : zi_Hp) (o : Option zi_Rt) : Prop := ∃ h', o = some (none, h') ∧ GO h' ∧ Fc h h'
section R33A
variable {h h1 h2 : zi_Hp} {W U : Nat} {x x1 : Nat → Nat → Int32} {y y1 : Nat → Nat → Bool} {c n : Nat}
theorem Fb.refl (h : zi_Hp) : Fb h h := ⟨fun _ _ _ => ⟨rfl, rfl, rfl⟩, rfl, rfl⟩
theorem Fb.trans (p : Fb h h1) (q : Fb h1 h2) : Fb h h2 := ⟨fun x j hx => ⟨(q.1 x j hx).1.trans (p.1 x j hx).1, (q.1 x j hx).2.1.trans (p.1 x j hx).2.1, (q.1 x j hx).2.2.trans (p.1 x j hx).2.2⟩, q.2.1.trans p.2.1, q.2.2.trans p.2.2⟩
theorem Fb.wi {a k : Nat} {v : Int32} (ha : a < 211) : Fb h (zh_wi h a k v) := ⟨fun x j hx => ⟨by rw [hp_i_wi, if_neg (by omega)], rfl, rfl⟩, rfl, rfl⟩
theorem Fb.wb {a k : Nat} {v : Bool} (ha : a < 211) : Fb h (zh_wb h a k v) := ⟨fun x j hx => ⟨rfl, by rw [hp_b_wb, if_neg (by omega)], rfl⟩, rfl, rfl⟩
theorem Fb.wl {a k : Nat} {v : Int64} (ha : a < 211) : Fb h (zh_wl h a k v) := ⟨fun x j hx => ⟨rfl, rfl, by rw [hp_l_wl, if_neg (by omega)]⟩, rfl, rfl⟩
theorem Fy.refl (h : zi_Hp) : Fy h h := ⟨Fb.refl h, fun _ => ⟨rfl, rfl⟩⟩
theorem Fy.trans (p : Fy h h1) (q : Fy h1 h2) : Fy h h2 := ⟨p.1.trans q.1, fun k => ⟨(q.2 k).1.trans (p.2 k).1, (q.2 k).2.trans (p.2 k).2⟩⟩
theorem Fc.refl (h : zi_Hp) : Fc h h := ⟨Fy.refl h, rfl⟩
theorem Fc.trans (p : Fc h h1) (q : Fc h1 h2) : Fc h h2 := ⟨p.1.trans q.1, q.2.trans p.2⟩
theorem Fy.wi {a k : Nat} {v : Int32} (ha : a < 211) (hk : a ≠ 204 ∧ a ≠ 205 := by omega) : Fy h (zh_wi h a k v) := ⟨Fb.wi ha, fun j => ⟨by rw [hp_i_wi, if_neg (by omega)], by rw [hp_i_wi, if_neg (by omega)]⟩⟩
theorem Fy.wb {a k : Nat} {v : Bool} (ha : a < 211) : Fy h (zh_wb h a k v) := ⟨Fb.wb ha, fun _ => ⟨rfl, rfl⟩⟩
theorem Fy.wl {a k : Nat} {v : Int64} (ha : a < 211) : Fy h (zh_wl h a k v) := ⟨Fb.wl ha, fun _ => ⟨rfl, rfl⟩⟩
theorem Fc.wi {a k : Nat} {v : Int32} (ha : a < 211) (hk : (a ≠ 197 ∨ k ≠ 1) ∧ a ≠ 204 ∧ a ≠ 205 := by omega) : Fc h (zh_wi h a k v) := ⟨Fy.wi ha, by rw [hp_i_wi, if_neg (by omega)]⟩
theorem Fc.wb {a k : Nat} {v : Bool} (ha : a < 211) : Fc h (zh_wb h a k v) := ⟨Fy.wb ha, rfl⟩
theorem Fc.wl {a k : Nat} {v : Int64} (ha : a < 211) : Fc h (zh_wl h a k v) := ⟨Fy.wl ha, rfl⟩
theorem Wa.l2 (V : Wa W) : 1 ≤ W ∧ W + 16 ≤ 197 := by unfold Wa at V; omega
theorem Fc.zC (V : Wa W) : Fc h (zC h W x y) := ⟨⟨⟨fun a j ha => ⟨zC_io _ (by have := V.l2; omega), zC_bo _ (by have := V.l2; omega), rfl⟩, rfl, rfl⟩, fun k => ⟨zC_io _ (by have := V.l2; omega), zC_io _ (by have := V.l2; omega)⟩⟩, zC_io _ (by have := V.l2; omega)⟩
/-- no world has this address -/
def wo (a : Nat) : Prop := ∀ W, Wa W → a < W ∨ W + 16 ≤ a
theorem wo_0 : wo 0 := fun W V => by unfold Wa at V; omega
theorem wo_66 : wo 66 := fun W V => by unfold Wa at V; omega
theorem wo_67 : wo 67 := fun W V => by unfold Wa at V; omega
theorem wo_p {a : Nat} (ha : 197 ≤ a) : wo a := fun W V => by unfold Wa at V; omega
theorem SW.of (e1 : ∀ o j, o < 16 → x1 o j = x o j) (e2 : ∀ o j, o < 16 → y1 o j = y o j) : SW x1 y1 x y := ⟨fun j _ => e1 _ _ (by decide), fun o j _ h5 _ => e1 _ _ (by omega), fun j _ => e2 _ _ (by decide), fun o j ho _ => e1 _ _ (by omega), fun c hc => ⟨fun j _ => e1 _ _ (by omega), e2 _ _ (by omega), fun j _ => e1 _ _ (by omega)⟩⟩
theorem GO.of (O : GO h) (S : Sh h1) (e : ∀ W, Wa W → ∀ o j, o < 16 → zh_i h1 (W + o) j = zh_i h (W + o) j ∧ zh_b h1 (W + o) j = zh_b h (W + o) j) : GO h1 := ⟨S, fun W V => (O.2 W V).sw (SW.of (fun o j ho => (e W V o j ho).1) (fun o j ho => (e W V o j ho).2))⟩
theorem GO.wi (O : GO h) {a k : Nat} {v : Int32} (ha : wo a) : GO (zh_wi h a k v) := O.of (O.1.wi _ _ _) (fun W V o j ho => ⟨by rw [hp_i_wi, if_neg (by have := ha W V; omega)], rfl⟩)
theorem GO.wb (O : GO h) {a k : Nat} {v : Bool} (ha : wo a) : GO (zh_wb h a k v) := O.of (O.1.wb _ _ _) (fun W V o j ho => ⟨rfl, by rw [hp_b_wb, if_neg (by have := ha W V; omega)]⟩)
theorem GO.wl (O : GO h) {a k : Nat} {v : Int64} : GO (zh_wl h a k v) := O.of (O.1.wl _ _ _) (fun W V o j ho => ⟨rfl, rfl⟩)
theorem GO.zC (O : GO h) (V : Wa W) (G : Gw x y) : GO (zC h W x y) := ⟨zC_S O.1, fun U V2 => by
  by_cases q : U = W
  · subst q
    exact G.sw (SW.of (fun o j ho => zC_i ho j) (fun o j ho => zC_b ho j))
  · have dj := V.dj V2 q
    exact (O.2 U V2).sw (SW.of (fun o j ho => zC_io _ (by omega)) (fun o j ho => zC_bo _ (by omega)))⟩
theorem CC.same (O : GO h) {o : Option zi_Rt} (e : ∃ v, o = some (some (.int v), h)) : CC h o := by
  obtain ⟨v, e⟩ := e
  exact ⟨v, h, e, O, Fc.refl h⟩
theorem V1 : Wa 1 := Or.inl rfl
theorem V17 : Wa 17 := Or.inr (Or.inl rfl)
theorem V34 : Wa 34 := Or.inr (Or.inr (Or.inl rfl))
theorem V50 : Wa 50 := Or.inr (Or.inr (Or.inr (Or.inl rfl)))
end R33A
