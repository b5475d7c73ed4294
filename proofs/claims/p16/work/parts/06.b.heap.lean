def zi_AOA (t : FieldType) (U : State) : Prop := (Cond.arrayOver (.array t)).before #[] U = true
theorem zi_AOA.moved {t : FieldType} {u U : State} (hvm : u.vm.Alike U.vm) (h : zi_AOA t u) : zi_AOA t U := by
  obtain ⟨comp, c, k, h1, h2, h3, h4, h5⟩ := arrayOverA_spec h
  obtain ⟨k', hk', he⟩ := hvm.2.2 _ _ h3
  have hi : (U.vm.classes.findIdx? fun (x : Class) => match x.kind with | .array component _ => component == comp | _ => false) = some c := (hvm.findIdx?_eq _ (fun _ => rfl)).trans h2
  have hkind : k'.kind = .array comp (.array t) := by rw [he]; exact h4
  have f1 : U.vm.findClass (FieldType.array t).toString = some comp := by rw [hvm.findClass]; exact h1
  have f2 : U.vm.findClass ("[" ++ (FieldType.array t).toString) = some c := by rw [hvm.findClass]; exact h5
  unfold zi_AOA Cond.before Cond.holds
  simp only [Cond.value]
  rw [f1, Option.bind_some]
  refine (congrArg (fun o : Option Nat => (o.bind (fun c => (U.vm.classes[c]?).map fun (k : Class) => match k.kind with | .array _ ty => decide (ty = FieldType.array t) && decide (U.vm.findClass ("[" ++ (FieldType.array t).toString) = some c) | _ => false) == some true)) hi).trans ?_
  simp [hk', hkind, f2]
/-- what is known of the texts that the program names -/
def zi_SK (b : Nat → Nat) (H0 : Heap) (U : State) : Prop := ∃ av : Nat → Nat, (∀ k, 1 ≤ k → k < 5 → vk_R "LinkTree$Script" (zi_sx k) (zi_tx k) (b k) U ∧ va_O "java/lang/String" (b k) (fun q => H0.size ≤ q) U H0 ∧ va_OF "java/lang/String" "coder" "B" (.int 0) (b k) (fun q => H0.size ≤ q) U H0 ∧ va_OF "java/lang/String" "value" "[B" (.ref (av k)) (b k) (fun q => H0.size ≤ q) U H0 ∧ va_T .byte (av k) (zi_sl k) (fun j => .int (zi_sc k j)) (fun q => H0.size ≤ q) U H0) ∧ va_Z "java/lang/String" "COMPACT_STRINGS" "Z" (.int 1) (fun q => H0.size ≤ q) U H0 ∧ va_Zq "jdk/internal/util/Preconditions" "SIOOBE_FORMATTER" "Ljava/util/function/BiFunction;" (fun q => H0.size ≤ q) U H0
theorem zi_SK.warm {b : Nat → Nat} {H0 : Heap} {s U : State} (hW : s.WarmedH U.vm) (h : zi_SK b H0 s) : zi_SK b H0 U := by
  obtain ⟨av, h1, h2, h3⟩ := h
  refine ⟨av, fun k a1 a2 => ?_, h2.moved hW.alike, h3.moved hW.alike⟩
  obtain ⟨g1, g2, g3, g4, g5⟩ := h1 k a1 a2
  exact ⟨g1.warm hW, g2.moved hW.alike, g3.moved hW.alike, g4.moved hW.alike, g5.moved hW.alike⟩
theorem zi_SK.same {b : Nat → Nat} {H0 : Heap} {s U : State} (hvm : s.vm = U.vm) (h : zi_SK b H0 s) : zi_SK b H0 U := by
  have ha : s.vm.Alike U.vm := by rw [hvm]; exact Vm.Alike.refl _
  obtain ⟨av, h1, h2, h3⟩ := h
  refine ⟨av, fun k a1 a2 => ?_, h2.moved ha, h3.moved ha⟩
  obtain ⟨g1, g2, g3, g4, g5⟩ := h1 k a1 a2
  exact ⟨vk_R.same hvm.symm g1, g2.moved ha, g3.moved ha, g4.moved ha, g5.moved ha⟩
/-- what is known of the tables, in every later state -/
def zi_K (D : va_G) (dA : Nat → ClassId) (b : Nat → Nat) (L : Nat) (xs : Nat → Int32) (H0 : Heap) (U : State) : Prop :=
  va_K D vwCl (zi_tys dA) U ∧ va_X (b 0) L xs U H0 ∧ (∀ own ix y, Cond.methodLinkNest own ix y "LinkTree" ∈ lw_tbl → va_Nw (.methodLinkNest own ix y "LinkTree") U) ∧ va_AO "LinkTree$World" U ∧ va_AO "LinkTree$Client" U ∧ zi_AOA .int U ∧ zi_SK b H0 U
theorem zi_K.warm {D : va_G} {dA : Nat → ClassId} {b : Nat → Nat} {L : Nat} {xs : Nat → Int32} {H0 : Heap} {s U : State} (hW : s.WarmedH U.vm) (h : zi_K D dA b L xs H0 s) : zi_K D dA b L xs H0 U :=
  ⟨h.1.moved hW.alike, h.2.1.moved hW.alike, fun own ix y hy => va_Nw.warmM hW (h.2.2.1 own ix y hy), h.2.2.2.1.moved hW.alike, h.2.2.2.2.1.moved hW.alike, h.2.2.2.2.2.1.moved hW.alike, h.2.2.2.2.2.2.warm hW⟩
theorem zi_K.same {D : va_G} {dA : Nat → ClassId} {b : Nat → Nat} {L : Nat} {xs : Nat → Int32} {H0 : Heap} {s U : State} (hvm : s.vm = U.vm) (h : zi_K D dA b L xs H0 s) : zi_K D dA b L xs H0 U := by
  have ha : s.vm.Alike U.vm := by rw [hvm]; exact Vm.Alike.refl _
  exact ⟨h.1.moved ha, h.2.1.moved ha, fun own ix y hy => va_Nw.same rfl hvm (h.2.2.1 own ix y hy), h.2.2.2.1.moved ha, h.2.2.2.2.1.moved ha, h.2.2.2.2.2.1.moved ha, h.2.2.2.2.2.2.same hvm⟩
/-- a cell of the reading machine in the heap -/
def zi_cell (D : va_G) (dA : Nat → ClassId) (B : Nat) (b : Nat → Nat) (h : zi_Hp) (H : Heap) (a : Nat) : Prop :=
  ((zh_k h a).1 < 9 ∧ (zh_k h a).2 = zi_Nf (zh_k h a).1 ∧ t_OB (B + a) (D.1 (zh_k h a).1) (zi_Nf (zh_k h a).1) (D.2 (zh_k h a).1) H (fun k => zr B b (zi_vd h (zi_tg (zh_k h a).1 k) a k))) ∨
  (100 ≤ (zh_k h a).1 ∧ (zh_k h a).1 < 106 ∧ H[B + a]? = some (arrV (dA ((zh_k h a).1 - 100)) (zh_k h a).2 (fun j => zr B b (zi_vd h ((zh_k h a).1 - 100) a j))))
def zi_Rl (D : va_G) (dA : Nat → ClassId) (b : Nat → Nat) (L : Nat) (xs : Nat → Int32) (H0 : Heap) (h : zi_Hp) (H : Heap) : Prop :=
  H.size = H0.size + zh_n h ∧ (∀ q, q < H0.size → H[q]? = H0[q]?) ∧ (zh_L h = L ∧ zh_x h = xs) ∧ ∀ a, a < zh_n h → zi_cell D dA H0.size b h H a
theorem zi_cell.kept {D : va_G} {dA : Nat → ClassId} {B : Nat} {b : Nat → Nat} {h h2 : zi_Hp} {H H2 : Heap} {a : Nat} (hc : zi_cell D dA B b h H a) (hk : zh_k h2 a = zh_k h a) (hv : ∀ t k, zi_vd h2 t a k = zi_vd h t a k) (hH : H2[B + a]? = H[B + a]?) : zi_cell D dA B b h2 H2 a := by
  unfold zi_cell at hc ⊢
  rw [hk]
  simp only [hv]
  rcases hc with ⟨c1, c2, c3⟩ | ⟨c1, c2, c3⟩
  · exact Or.inl ⟨c1, c2, c3.kept hH⟩
  · exact Or.inr ⟨c1, c2, by rw [hH]; exact c3⟩
section ZRL
variable {D : va_G} {dA : Nat → ClassId} {b : Nat → Nat} {L : Nat} {xs : Nat → Int32} {H0 : Heap} {h h2 : zi_Hp} {H H2 : Heap}
/-- one cell is written -/
theorem zi_Rl.set (hR : zi_Rl D dA b L xs H0 h H) {a : Nat} (hn : zh_n h2 = zh_n h) (hk : zh_k h2 = zh_k h) (hx : zh_L h2 = zh_L h ∧ zh_x h2 = zh_x h) (hv : ∀ t a' k, a' ≠ a → zi_vd h2 t a' k = zi_vd h t a' k) (hs : H2.size = H.size) (ho : ∀ q, q ≠ H0.size + a → H2[q]? = H[q]?) (hc : zi_cell D dA H0.size b h2 H2 a) : zi_Rl D dA b L xs H0 h2 H2 := by
  refine ⟨by rw [hs, hn]; exact hR.1, fun q hq => by rw [ho q (by omega)]; exact hR.2.1 q hq, by rw [hx.1, hx.2]; exact hR.2.2.1, fun a' ha' => ?_⟩
  by_cases e : a' = a
  · subst e; exact hc
  · exact (hR.2.2.2 a' (by rw [← hn]; exact ha')).kept (by rw [hk]) (fun t k => hv t a' k e) (ho _ (by omega))
/-- one cell is made -/
theorem zi_Rl.push (hR : zi_Rl D dA b L xs H0 h H) {kd len : Nat} (hs : H2.size = H.size + 1) (ho : ∀ q, q < H.size → H2[q]? = H[q]?) (hc : zi_cell D dA H0.size b (zh_al h kd len) H2 (zh_n h)) : zi_Rl D dA b L xs H0 (zh_al h kd len) H2 := by
  have h1 := hR.1
  refine ⟨by rw [hs, h1]; show _ = H0.size + (zh_n h + 1); omega, fun q hq => by rw [ho q (by omega)]; exact hR.2.1 q hq, hR.2.2.1, fun a' ha' => ?_⟩
  have ha' : a' < zh_n h + 1 := ha'
  by_cases e : a' = zh_n h
  · subst e; exact hc
  · refine (hR.2.2.2 a' (by omega)).kept ?_ (fun t k => ?_) (ho _ (by omega))
    · show (if a' = zh_n h then (kd, len) else zh_k h a') = zh_k h a'
      rw [if_neg e]
    · unfold zi_vd
      split
      · show Value.int (zh_z (zh_i h) (zh_n h) 0 a' k) = _; rw [zh_z, if_neg e]
      · show Value.int (zi_bI (zh_z (zh_b h) (zh_n h) false a' k)) = _; rw [zh_z, if_neg e]
      · show Value.long (zh_z (zh_l h) (zh_n h) 0 a' k) = _; rw [zh_z, if_neg e]
      · show zh_z (zh_r h) (zh_n h) .null a' k = _; rw [zh_z, if_neg e]
end ZRL
theorem zi_wr_facts {h h2 : zi_Hp} {t a k : Nat} {v : Value} (hw : zi_wr h t a k v = some h2) : zh_n h2 = zh_n h ∧ zh_s h2 = zh_s h ∧ zh_k h2 = zh_k h ∧ (zh_L h2 = zh_L h ∧ zh_x h2 = zh_x h) ∧ (∀ t' a' k', (a' ≠ a ∨ k' ≠ k) → zi_vd h2 t' a' k' = zi_vd h t' a' k') ∧ zi_vd h2 t a k = v := by
  have key : ∀ {α : Type} (f : Nat → Nat → α) (x : α) (a' k' : Nat), (a' ≠ a ∨ k' ≠ k) → zh_u f a k x a' k' = f a' k' := by
    intro α f x a' k' hne
    unfold zh_u
    rw [if_neg]
    rintro ⟨e1, e2⟩
    rcases hne with q | q
    · exact q e1
    · exact q e2
  have key2 : ∀ {α : Type} (f : Nat → Nat → α) (x : α), zh_u f a k x a k = x := by
    intro α f x
    unfold zh_u
    rw [if_pos ⟨rfl, rfl⟩]
  have gi : ∀ x, zi_wr h 0 a k (.int x) = some h2 → True := fun _ _ => trivial
  unfold zi_wr at hw
  split at hw
  · cases hw
    refine ⟨rfl, rfl, rfl, ⟨rfl, rfl⟩, fun t' a' k' hne => ?_, ?_⟩
    · unfold zi_vd
      split
      · show Value.int (zh_u (zh_i h) a k _ a' k') = _; rw [key _ _ _ _ hne]
      · rfl
      · rfl
      · rfl
    · show Value.int (zh_u (zh_i h) a k _ a k) = _; rw [key2]
  · rename_i x
    by_cases h0 : x = 0
    · rw [if_pos h0] at hw
      cases hw
      refine ⟨rfl, rfl, rfl, ⟨rfl, rfl⟩, fun t' a' k' hne => ?_, ?_⟩
      · unfold zi_vd
        split
        · rfl
        · show Value.int (zi_bI (zh_u (zh_b h) a k _ a' k')) = _; rw [key _ _ _ _ hne]
        · rfl
        · rfl
      · show Value.int (zi_bI (zh_u (zh_b h) a k _ a k)) = _; rw [key2, h0]; rfl
    · rw [if_neg h0] at hw
      by_cases h1 : x = 1
      · rw [if_pos h1] at hw
        cases hw
        refine ⟨rfl, rfl, rfl, ⟨rfl, rfl⟩, fun t' a' k' hne => ?_, ?_⟩
        · unfold zi_vd
          split
          · rfl
          · show Value.int (zi_bI (zh_u (zh_b h) a k _ a' k')) = _; rw [key _ _ _ _ hne]
          · rfl
          · rfl
        · show Value.int (zi_bI (zh_u (zh_b h) a k _ a k)) = _; rw [key2, h1]; rfl
      · rw [if_neg h1] at hw; cases hw
  · cases hw
    refine ⟨rfl, rfl, rfl, ⟨rfl, rfl⟩, fun t' a' k' hne => ?_, ?_⟩
    · unfold zi_vd
      split
      · rfl
      · rfl
      · show Value.long (zh_u (zh_l h) a k _ a' k') = _; rw [key _ _ _ _ hne]
      · rfl
    · show Value.long (zh_u (zh_l h) a k _ a k) = _; rw [key2]
  · cases hw
    refine ⟨rfl, rfl, rfl, ⟨rfl, rfl⟩, fun t' a' k' hne => ?_, ?_⟩
    · unfold zi_vd
      split
      · rfl
      · rfl
      · rfl
      · show zh_u (zh_r h) a k _ a' k' = _; rw [key _ _ _ _ hne]
    · show zh_u (zh_r h) a k _ a k = _; rw [key2]
  · cases hw
section ZRO
variable {D : va_G} {dA : Nat → ClassId} {b : Nat → Nat} {L : Nat} {xs : Nat → Int32} {H0 : Heap} {h h2 : zi_Hp} {H H2 : Heap}
/-- what an object's cell is -/
theorem zi_Rl.obj (hR : zi_Rl D dA b L xs H0 h H) {a c : Nat} (ha : a < zh_n h) (hk : (zh_k h a).1 = c) (hc : c < 9) : t_OB (H0.size + a) (D.1 c) (zi_Nf c) (D.2 c) H (fun k => zr H0.size b (zi_vd h (zi_tg c k) a k)) := by
  rcases hR.2.2.2 a ha with ⟨-, -, c3⟩ | ⟨c1, -, -⟩
  · rw [hk] at c3; exact c3
  · omega
theorem zi_Rl.arr (hR : zi_Rl D dA b L xs H0 h H) {a t : Nat} (ha : a < zh_n h) (hk : (zh_k h a).1 = 100 + t) : H[H0.size + a]? = some (arrV (dA t) (zh_k h a).2 (fun j => zr H0.size b (zi_vd h t a j))) := by
  rcases hR.2.2.2 a ha with ⟨c1, -, -⟩ | ⟨-, -, c3⟩
  · omega
  · rw [hk, show 100 + t - 100 = t by omega] at c3; exact c3
/-- an array's cell is written -/
theorem zi_Rl.setA (hR : zi_Rl D dA b L xs H0 h H) {a t j : Nat} {v : Value} (ha : a < zh_n h) (hk : (zh_k h a).1 = 100 + t) (ht : t < 6) (hn : zh_n h2 = zh_n h) (hk2 : zh_k h2 = zh_k h) (hx : zh_L h2 = zh_L h ∧ zh_x h2 = zh_x h) (hv : ∀ t' a' k', (a' ≠ a ∨ k' ≠ j) → zi_vd h2 t' a' k' = zi_vd h t' a' k') (hv2 : zi_vd h2 t a j = v) (hs : H2.size = H.size) (ho : ∀ q, q ≠ H0.size + a → H2[q]? = H[q]?) (hc : H2[H0.size + a]? = some ((arrV (dA t) (zh_k h a).2 (fun j => zr H0.size b (zi_vd h t a j))).setSlot j (zr H0.size b v))) : zi_Rl D dA b L xs H0 h2 H2 := by
  refine hR.set hn hk2 hx (fun t' a' k' e => hv t' a' k' (Or.inl e)) hs ho (Or.inr ⟨by rw [hk2]; omega, by rw [hk2]; omega, ?_⟩)
  rw [hc, arrV_store, hk2, hk, show 100 + t - 100 = t by omega]
  refine congrArg some (congrArg (arrV (dA t) (zh_k h a).2) (funext fun q => ?_))
  by_cases e : q = j
  · subst e; simp [updV, hv2]
  · simp [updV, e, hv t a q (Or.inr e)]
end ZRO
/-- memory and cells only grow -/
theorem zi_to_eq {pc : Nat} {off : Int} {ls st : List Value} {h : zi_Hp} {x : zi_Nx} (e : zi_to pc off ls st h = some x) : ∃ tgt : Nat, (pc : Int) + off = (tgt : Int) ∧ x = .inl (tgt, ls, st, h) := by
  unfold zi_to at e
  split at e
  · rename_i h0
    cases e
    exact ⟨((pc : Int) + off).toNat, (Int.toNat_of_nonneg h0).symm, rfl⟩
  · cases e
def zi_hp (x : zi_Nx) : zi_Hp := match x with
  | .inl c => c.2.2.2
  | .inr (.inl r) => r.2
  | .inr (.inr q) => q.2.2.2.2.2
theorem zi_br_some {α : Type} {c : Jvm.ClassFile.Cond} {x y : Int32} {a b : Option α} {r : α} (h : zi_br c x y a b = some r) : a = some r ∨ b = some r := by
  unfold zi_br at h
  split at h <;> (split at h <;> first | exact Or.inl h | exact Or.inr h)
set_option maxHeartbeats 4000000 in
theorem zi_st_mono {I : zi_RI} {pc : Nat} {ls st : List Value} {h : zi_Hp} {x : zi_Nx} (e : zi_st I pc ls st h = some x) : zh_n h ≤ zh_n (zi_hp x) ∧ zh_s h ≤ zh_s (zi_hp x) := by
  obtain ⟨i, len, r1, r2, r3, pi, z⟩ := I
  have rf : zh_n h ≤ zh_n h ∧ zh_s h ≤ zh_s h := ⟨Nat.le_refl _, Nat.le_refl _⟩
  have hto : ∀ {off : Int} {st : List Value}, zi_to pc off ls st h = some x → zh_n h ≤ zh_n (zi_hp x) ∧ zh_s h ≤ zh_s (zi_hp x) := by
    intro off st e
    obtain ⟨t, -, rfl⟩ := zi_to_eq e
    exact rf
  have hwr : ∀ {t a k : Nat} {v : Value} {pc2 : Nat} {r : List Value}, (match zi_wr h t a k v with | some h2 => some (Sum.inl (pc2, ls, r, h2)) | none => none) = some x → zh_n h ≤ zh_n (zi_hp x) ∧ zh_s h ≤ zh_s (zi_hp x) := by
    intro t a k v pc2 r e
    cases hw : zi_wr h t a k v with
    | none => rw [hw] at e; cases e
    | some h2 =>
      rw [hw] at e
      cases e
      obtain ⟨f1, f2, -⟩ := zi_wr_facts hw
      exact ⟨by show zh_n h ≤ zh_n h2; omega, by show zh_s h ≤ zh_s h2; omega⟩
  have hal : ∀ {kd n : Nat}, zh_n h ≤ zh_n (zh_al h kd n) ∧ zh_s h ≤ zh_s (zh_al h kd n) := fun {kd n} => ⟨by show zh_n h ≤ zh_n h + 1; omega, by show zh_s h ≤ zh_s h + n; omega⟩
  have hmn : ∀ {a b : Nat}, zh_n h ≤ zh_n (zh_mn h a b) ∧ zh_s h ≤ zh_s (zh_mn h a b) := fun {a b} => ⟨by show zh_n h ≤ zh_n h + 1 + a; omega, by show zh_s h ≤ zh_s h + a + a * b; omega⟩
  unfold zi_st at e
  dsimp only at e
  repeat' split at e
  all_goals first
    | (cases e; done)
    | (cases e; exact rf)
    | (cases e; exact hal)
    | (cases e; exact hmn)
    | exact hto e
    | exact hwr e
    | (cases e; have f := zi_wr_facts (by assumption); exact ⟨Nat.le_of_eq f.1.symm, Nat.le_of_eq f.2.1.symm⟩)
    | (rcases zi_br_some e with q | q <;> first | exact hto q | (cases q; exact rf))
theorem zi_go_mono : ∀ (n k M : Nat) (c : zi_Cf) (r : zi_Rt), zi_go n k M c = some r → zh_n c.2.2.2 ≤ zh_n r.2 ∧ zh_s c.2.2.2 ≤ zh_s r.2 := by
  intro n
  induction n with
  | zero => intro k M c r h; cases h
  | succ n ih =>
    intro k M c r h
    rw [zi_go_s] at h
    cases hf : zi_fe M c.1 with
    | none => rw [hf] at h; cases h
    | some I =>
      rw [hf] at h
      dsimp only at h
      cases hs : zi_st I c.1 c.2.1 c.2.2.1 c.2.2.2 with
      | none => rw [hs] at h; cases h
      | some x =>
        rw [hs] at h
        have hm := zi_st_mono hs
        rcases x with c2 | r2 | ⟨M2, as, c2⟩
        · have := ih k M c2 r h
          exact ⟨Nat.le_trans hm.1 this.1, Nat.le_trans hm.2 this.2⟩
        · cases h; exact hm
        · dsimp only at h
          by_cases hr : zi_rk M2 as < k ∧ zi_fit M2 as = true
          · rw [if_pos hr] at h
            cases hg : zi_go n (zi_rk M2 as) M2 (0, zi_en M2 as, [], c2.2.2.2) with
            | none => rw [hg] at h; cases h
            | some q =>
              rw [hg] at h
              have h1 := ih _ _ _ _ hg
              have h2 := ih _ _ _ _ h
              exact ⟨Nat.le_trans hm.1 (Nat.le_trans h1.1 h2.1), Nat.le_trans hm.2 (Nat.le_trans h1.2 h2.2)⟩
          · rw [if_neg hr] at h; cases h
