theorem zr_dflt (B : Nat) (b : Nat → Nat) (t : Nat) : zi_dv t = zr B b (zi_dv t) := by unfold zi_dv; split <;> rfl
theorem zi_w_objI : Cond.instanceMethod objectInit ∈ zi_gt := by decide +kernel
theorem zi_w_objC : Cond.code objectInit ⟨#[0xb1]⟩ 1 none ∈ zi_gt := by decide +kernel
theorem zi_w_acN : Cond.native arraycopyName ∈ zi_gt := by decide +kernel
theorem zi_w_acS : Cond.static arraycopyName ∈ zi_gt := by decide +kernel
theorem zi_w_acI : Cond.initialized "java/lang/System" ∈ zi_gt := by decide +kernel
theorem zi_w_mxS : Cond.static Lib.Math.max.name ∈ zi_gt := by decide +kernel
theorem zi_w_mnS : Cond.static Lib.Math.min.name ∈ zi_gt := by decide +kernel
theorem zi_w_mI : Cond.initialized "java/lang/Math" ∈ zi_gt := by decide +kernel
theorem zi_w_mxC : Cond.code Lib.Math.max.name Lib.Math.max.code 2 (some .int) ∈ zi_gt := by decide +kernel
theorem zi_w_mnC : Cond.code Lib.Math.min.name Lib.Math.min.code 2 (some .int) ∈ zi_gt := by decide +kernel
theorem zi_kdArr {D : va_G} {dA : Nat → ClassId} {s : State} (hK : va_K D vwCl (zi_tys dA) s) {t : Nat} (ht : t < 6) : ArrOfT s (dA t) (zi_aty t) ∧ va_RA s (dA t) (zi_aty t) := hK.2 t _ (zi_tys_at dA t ht)
section ZROW
variable {p : Program} {l : Launch} {e : Env} {R : Room} {s : State} {m : MethodId} {args : Array Value} {below : List Frame} {meth : Method} {c : Code} {H : Heap} {locs : List Loc} {cells slots : Nat} {Q : State → Prop}
/-- System.arraycopy between rows of ints, or of booleans -/
theorem zi_Wcopy {cc : ByteArray} {pc : Nat} {ls : Array Slot} {rest : List Value} (hexec : p.tables.exec = Jvm.exec) (hb : c.code = cc) (hml : c.maxLocals = ls.size) {own : String} {index : Nat} (hown : s.vm.findClass own = some m.cls) (hlink : (Cond.methodLink own index arraycopyName).before args s = true) (hnat : (Cond.native arraycopyName).before args s = true) (hstat : (Cond.static arraycopyName).before args s = true) (hini : (Cond.initialized "java/lang/System").before args s = true)
    {a0 a : Nat} {c0 c1 : ClassId} {n0 n1 : Nat} {f g : Nat → Int32} {ty : FieldType} (hc0 : H[a0]? = some (arrV c0 n0 (fun j => .int (f j)))) (hc1 : H[a]? = some (arrV c1 n1 (fun j => .int (g j)))) (ht0 : ArrOfT s c0 ty) (ht1 : ArrOfT s c1 ty) (hprim : refKind ty = false)
    {sp dp n : Int32} (h1 : ¬ sp < 0) (h2 : ¬ dp < 0) (h3 : ¬ n < 0) (h4 : sp.toNatClampNeg + n.toNatClampNeg ≤ n0) (h5 : dp.toNatClampNeg + n.toNatClampNeg ≤ n1) (hfit : ∀ i, i < n.toNatClampNeg → fits ty (.int (f (sp.toNatClampNeg + i))) = true)
    (hframes : 1 ≤ R.frames) (hlocals : (rest.map fun v => v.category).sum + (nativeFrameWords "java/lang/System" "arraycopy" 5 + 11) ≤ R.locals) (hdg : decode cc pc = .ok (.invokestatic index, 3))
    (kk : ∀ (H1 : Heap) (Lc : List Loc), (∀ q ∈ Lc, q.base = a) → H1.size = H.size → (∀ q, q ≠ a → H1[q]? = H[q]?) → H1[a]? = some (arrV c1 n1 (fun j => .int (va_cpy f g sp.toNatClampNeg dp.toNatClampNeg n.toNatClampNeg j))) → W p l e R s m args below meth c H1 (locs ++ Lc) cells slots Q (F0 m (pc + 3) ls rest)) : W p l e R s m args below meth c H locs cells slots Q (F0 m pc ls (.int n :: .int dp :: .ref a :: .int sp :: .ref a0 :: rest)) := by
  have nn : ∀ z : Int32, ¬ z < 0 → z.toInt = (z.toNatClampNeg : Int) := by
    intro z hz
    have hz0 : (0 : Int) ≤ z.toInt := by
      have := Int32.not_lt.mp hz
      simpa using Int32.le_iff_toInt_le.mp this
    show z.toInt = ((z.toInt.toNat : Nat) : Int)
    omega
  intro T hT X
  obtain ⟨-, k0, hk0, cm0, hkk0⟩ := ht0 n0 (fun j => .int (f j))
  obtain ⟨-, k1, hk1, cm1, hkk1⟩ := ht1 n1 (fun j => .int (g j))
  obtain ⟨vm', X', step⟩ := X.arraycopy hexec hown hlink hnat hstat hini (src := a0) (dst := a) (cs := arrV c0 n0 (fun j => .int (f j))) (cd := arrV c1 n1 (fun j => .int (g j))) (srcPos := sp) (destPos := dp) (n := n) (by rw [hT]; exact hc0) (by rw [hT]; exact hc1)
    (fun _ h => by cases h) (fun _ h => by cases h) (fun h => by cases h) (fun h => by cases h) hk0 hk1 hkk0 hkk1 (by simp [hprim]) h1 h2 h3
    (by rw [nn sp h1, nn n h3, arrV_size]; omega)
    (by rw [nn dp h2, nn n h3, arrV_size]; omega)
    (fun vm₁ _ i hi => by
      have e : (arrV c0 n0 (fun j => .int (f j))).slots.getD (sp.toNatClampNeg + i) .null = .int (f (sp.toNatClampNeg + i)) := by
        rw [Array.getD_eq_getD_getElem?, arrV_read _ _ (by omega)]
        rfl
      refine ⟨?_, ?_⟩
      · rw [e]
        exact hfit i hi
      · rw [e]
        exact trivial)
    (g := F0 m pc ls (.int n :: .int dp :: .ref a :: .int sp :: .ref a0 :: rest)) rfl (by rw [hml]) (rest := rest) rfl (by rw [hb]; exact hdg) hframes (by show 2 * 0 + _ + _ ≤ _; omega)
  have e1 : copied (arrV c0 n0 (fun j => .int (f j))) (arrV c1 n1 (fun j => .int (g j))) sp dp n = arrV c1 n1 (fun j => .int (va_cpy f g sp.toNatClampNeg dp.toNatClampNeg n.toNatClampNeg j)) := va_copied (fun z => .int z) c0 c1 f g h4
  rw [e1] at X' step
  have hl : a < H.size := (Array.getElem?_eq_some_iff.mp hc1).1
  have hheap : ((T.setVm vm').setCell a (arrV c1 n1 (fun j => .int (va_cpy f g sp.toNatClampNeg dp.toNatClampNeg n.toNatClampNeg j)))).heap = H.setIfInBounds a (arrV c1 n1 (fun j => .int (va_cpy f g sp.toNatClampNeg dp.toNatClampNeg n.toNatClampNeg j))) := by rw [← hT]; rfl
  obtain ⟨t, a1, b1⟩ := kk _ _ (fun q hq => by obtain ⟨z, -, hz⟩ := List.mem_map.mp hq; rw [← hz]) (by simp) (fun q hq => by simp [Array.getElem?_setIfInBounds, Ne.symm hq]) (by simp [Array.getElem?_setIfInBounds, hl]) _ hheap X'
  exact ⟨t, step t a1, b1⟩
end ZROW
section ZSTEPH
variable {p : Program} {l : Launch} {e : Env} {R : Room} {s : State} {m : MethodId} {args : Array Value} {below : List Frame} {meth : Method} {c : Code} {Q : State → Prop}
variable {D : va_G} {dA : Nat → ClassId} {b : Nat → Nat} {L : Nat} {xs : Nat → Int32} {H0 : Heap} {cc : ByteArray} {nL own n0 s0 : Nat} {ini : Bool}
variable {pc : Nat} {ls st : List Value} {h : zi_Hp} {c2 : zi_Cf} {len r1 r2 r3 pi : Nat} {z : Int}
set_option maxHeartbeats 1000000 in
theorem zi_s_getfield {ix : Nat} (hC : zi_Cx p R s m args meth c D dA b L xs H0 cc nL own ini) (hd : decode cc pc = .ok (.getfield ix, 3)) (h1 : r1 < 9) (h2 : r2 < zi_Nf r1) (hw : Cond.fieldLink (zi_own own) ix (zi_T r1 r2).1 (zi_T r1 r2).2.1 (zi_T r1 r2).2.2.1 ∈ zi_gt) (ht : zi_tg r1 r2 = r3) (hs : zi_st (.getfield ix, len, r1, r2, r3, pi, z) pc ls st h = some (.inl c2)) (hcb : zh_n c2.2.2.2 ≤ n0 + R.cells) (hsb : zh_s c2.2.2.2 ≤ s0 + R.slots) (kk : zi_At p l e R s m args below meth c Q D dA b L xs H0 nL n0 s0 c2) : zi_At p l e R s m args below meth c Q D dA b L xs H0 nL n0 s0 (pc, ls, st, h) := by
  intro H als locs cells slots hR hL hlo hn hsl
  replace hR : zi_Rl D dA b L xs H0 h H := hR
  replace hL : zi_LR H0.size b nL als ls := hL
  replace hn : n0 + cells = zh_n h := hn
  replace hsl : s0 + slots = zh_s h := hsl
  obtain ⟨hx, hb, hml, hown, hts, hK, hini, hfr, hlc, hbl⟩ := hC
  dsimp only [zi_st] at hs
  split at hs
  · split at hs
    · rename_i a r hc
      obtain ⟨ha, hk⟩ := hc
      cases hs
      obtain ⟨cell, q1, q2, q3, q4⟩ := hR.obj ha hk h1
      obtain ⟨hS, hfc, kC, hkC, hkind⟩ := hK.1.1 r1 _ (zi_vw r1 h1)
      obtain ⟨cf, kf, fi, f, hi, hsl9⟩ := hS r2 h2
      refine W.getf hx hb hown (hts _ hw) hi (u_facts hfc hkC (u_lays hts (zi_inwg r1 h1) h2) hi).1 q1 (by rw [q3]; exact fun h => by cases h) (v := zr H0.size b (zi_vd h r3 a r2)) ?_ rfl rfl hd (kk H als locs cells slots hR hL hlo hn hsl)
      rw [← ht, hsl9]
      exact q4 r2 h2
    · cases hs
  · cases hs
set_option maxHeartbeats 1000000 in
theorem zi_s_putfield {ix : Nat} (hC : zi_Cx p R s m args meth c D dA b L xs H0 cc nL own ini) (hd : decode cc pc = .ok (.putfield ix, 3)) (h1 : r1 < 9) (h2 : r2 < zi_Nf r1) (hw : Cond.fieldLink (zi_own own) ix (zi_T r1 r2).1 (zi_T r1 r2).2.1 (zi_T r1 r2).2.2.1 ∈ zi_gt) (ht : zi_tg r1 r2 = r3) (hf : (zi_T r1 r2).2.2.2 = false ∨ (ini = true ∧ (zi_T r1 r2).1 = zi_own own)) (hs : zi_st (.putfield ix, len, r1, r2, r3, pi, z) pc ls st h = some (.inl c2)) (hcb : zh_n c2.2.2.2 ≤ n0 + R.cells) (hsb : zh_s c2.2.2.2 ≤ s0 + R.slots) (kk : zi_At p l e R s m args below meth c Q D dA b L xs H0 nL n0 s0 c2) : zi_At p l e R s m args below meth c Q D dA b L xs H0 nL n0 s0 (pc, ls, st, h) := by
  intro H als locs cells slots hR hL hlo hn hsl
  replace hR : zi_Rl D dA b L xs H0 h H := hR
  replace hL : zi_LR H0.size b nL als ls := hL
  replace hn : n0 + cells = zh_n h := hn
  replace hsl : s0 + slots = zh_s h := hsl
  obtain ⟨hx, hb, hml, hown, hts, hK, hini, hfr, hlc, hbl⟩ := hC
  dsimp only [zi_st] at hs
  split at hs
  · split at hs
    · rename_i v a r hc
      obtain ⟨ha, hk⟩ := hc
      split at hs
      · rename_i h2' hw2
        cases hs
        obtain ⟨f1, f2, f3, f4, f5, f6⟩ := zi_wr_facts hw2
        have hfit9 := zi_wr_fits (B := H0.size) (b := b) (ty := zi_ty r1 r2) hw2 (by rw [← ht]; exact zi_tgok r1 h1 r2 h2)
        obtain ⟨cell, q1, q2, q3, q4⟩ := hR.obj ha hk h1
        have hlen : (zh_k h a).2 = zi_Nf (zh_k h a).1 := by
          rcases hR.2.2.2 a ha with ⟨-, c2, -⟩ | ⟨c1, -, -⟩
          · exact c2
          · omega
        have hap := va_apart (own := zi_own own) hts (zi_inwg r1 h1) (zi_ty r1) (zi_tyok r1 h1) (zi_nmok r1 h1) hK.1 (zi_vw r1 h1)
        obtain ⟨hS, hfc, kC, hkC, hkind⟩ := hK.1.1 r1 _ (zi_vw r1 h1)
        obtain ⟨cf, kf, fi, f, hi, hsl9⟩ := hS r2 h2
        have hst := (u_facts hfc hkC (u_lays hts (zi_inwg r1 h1) h2) hi).1
        have hlay := hts _ (zi_inwg r1 h1 _ (u_in_lay h2))
        have fin : ∀ H' : Heap, H'[H0.size + a]? = some (cell.setSlot f.slot (zr H0.size b v)) → H'.size = H.size → (∀ q, q ≠ H0.size + a → H'[q]? = H[q]?) → W p l e R s m args below meth c H' (locs ++ [⟨H0.size + a, f.slot⟩]) cells slots Q (F0 m (pc + 3) als (r.map (zr H0.size b))) := by
          intro H' e1 e2 e3
          refine kk H' als _ cells slots (hR.set (a := a) f1 f3 f4 (fun t' a' k' hne => f5 t' a' k' (Or.inl hne)) e2 e3 ?_) hL (zi_locs1 hlo) (by show n0 + cells = zh_n h2'; rw [f1]; exact hn) (by show s0 + slots = zh_s h2'; rw [f2]; exact hsl)
          unfold zi_cell
          rw [f3]
          refine Or.inl ⟨by rw [hk]; exact h1, hlen, ?_⟩
          rw [hk]
          rw [hsl9] at e1
          refine t_OB.to (V := updV (fun k => zr H0.size b (zi_vd h (zi_tg r1 k) a k)) r2 (zr H0.size b v)) ⟨_, e1, q2, q3, t_set q4 hap h2 _⟩ (fun j _ => ?_)
          by_cases hj : j = r2
          · subst hj
            show (if j = j then _ else _) = _
            rw [if_pos rfl, ht, f6]
          · show (if j = r2 then _ else _) = _
            rw [if_neg hj, f5 _ _ _ (Or.inr hj)]
        rcases hf with hf | ⟨hf1, hf2⟩
        · unfold u_lay at hlay
          rw [if_neg (by rw [hf]; decide)] at hlay
          have h6 := u_store hfc hkC hkind hlay hi (zi_tyok r1 h1 r2 h2) hfit9.1 hfit9.2
          exact W.putK hx hb (f := f) ⟨hown, hts _ hw, ⟨_, _, _, hi⟩, hst⟩ (by rw [q2]; exact h6) q1 q3 (by rw [hsl9]; exact k2_hasslot (q4 r2 h2)) rfl rfl hd fin
        · by_cases hff : (zi_T r1 r2).2.2.2 = true
          · unfold u_lay at hlay
            rw [if_pos hff] at hlay
            have hcf : m.cls = cf := by
              obtain ⟨_, _, c', _, _, _, -, -, hf', -, -, -, hown2, -⟩ := Cond.laysFinal_spec hlay
              have e1 : c' = cf := by have := hi.symm.trans hf'; simp at this; exact this.1.symm
              rw [hf2] at hown2
              rw [← e1]; exact Option.some.inj (hown.symm.trans hown2)
            have h6 := u_fits hfc hkC hkind (Or.inr hlay) hi (zi_tyok r1 h1 r2 h2) hfit9.1 hfit9.2
            exact W.putFinK hx hb hown (hts _ hw) hi hst hcf (hini hf1) (by rw [q2]; exact h6) q1 q3 (by rw [hsl9]; exact k2_hasslot (q4 r2 h2)) rfl rfl hd fin
          · unfold u_lay at hlay
            rw [if_neg hff] at hlay
            have h6 := u_store hfc hkC hkind hlay hi (zi_tyok r1 h1 r2 h2) hfit9.1 hfit9.2
            exact W.putK hx hb (f := f) ⟨hown, hts _ hw, ⟨_, _, _, hi⟩, hst⟩ (by rw [q2]; exact h6) q1 q3 (by rw [hsl9]; exact k2_hasslot (q4 r2 h2)) rfl rfl hd fin
      · cases hs
    · cases hs
  · cases hs
set_option maxHeartbeats 1000000 in
theorem zi_s_new {ix : Nat} (hC : zi_Cx p R s m args meth c D dA b L xs H0 cc nL own ini) (hd : decode cc pc = .ok (.new ix, 3)) (h1 : r1 < 9) (h2 : r2 = zi_Nf r1) (hw1 : Cond.classLink (zi_own own) ix (zi_own r1) ∈ zi_gt) (hw2 : Cond.instantiable (zi_own r1) r2 ∈ zi_gt) (hs : zi_st (.new ix, len, r1, r2, r3, pi, z) pc ls st h = some (.inl c2)) (hcb : zh_n c2.2.2.2 ≤ n0 + R.cells) (hsb : zh_s c2.2.2.2 ≤ s0 + R.slots) (kk : zi_At p l e R s m args below meth c Q D dA b L xs H0 nL n0 s0 c2) : zi_At p l e R s m args below meth c Q D dA b L xs H0 nL n0 s0 (pc, ls, st, h) := by
  intro H als locs cells slots hR hL hlo hn hsl
  replace hR : zi_Rl D dA b L xs H0 h H := hR
  replace hL : zi_LR H0.size b nL als ls := hL
  replace hn : n0 + cells = zh_n h := hn
  replace hsl : s0 + slots = zh_s h := hsl
  obtain ⟨hx, hb, hml, hown, hts, hK, hini, hfr, hlc, hbl⟩ := hC
  dsimp only [zi_st] at hs
  cases hs
  have hKn := hK.1.1 r1 _ (zi_vw r1 h1)
  have hcb : zh_n h + 1 ≤ n0 + R.cells := hcb
  have hsb : zh_s h + r2 ≤ s0 + R.slots := hsb
  refine W.newcK hx hb hown (hts _ hw1) (hts _ hw2) (hts _ (zi_ini r1 h1)) rfl hd (by omega) (by omega) hKn.2.1 hR.1 fun H1 kC hkC e1 z1 o1 => ?_
  refine kk H1 als locs (cells + 1) (slots + r2) (hR.push (by rw [z1, hR.1]) (fun q hq => o1 q (by rw [← hR.1]; exact hq)) ?_) hL hlo (by show n0 + (cells + 1) = zh_n h + 1; omega) (by show s0 + (slots + r2) = zh_s h + r2; omega)
  unfold zi_cell
  rw [zh_k_al]
  refine Or.inl ⟨h1, h2, (u_born (zi_ty r1) hts (zi_inwg r1 h1) hKn hkC e1 (zi_tyok r1 h1)).to (fun k hk => ?_)⟩
  rw [zi_vd_al, zi_dflt (zi_tgok r1 h1 k hk)]
  exact zr_dflt _ _ _
set_option maxHeartbeats 1000000 in
theorem zi_s_newarray {t : ArrayType} (hC : zi_Cx p R s m args meth c D dA b L xs H0 cc nL own ini) (hd : decode cc pc = .ok (.newarray t, 2)) (hr1 : 100 ≤ r1) (hr2 : r1 < 103) (hty : newarray.typeOf t = zi_aty (r1 - 100)) (hw : Cond.arrayClass (zi_aty (r1 - 100)) ∈ zi_gt) (hs : zi_st (.newarray t, len, r1, r2, r3, pi, z) pc ls st h = some (.inl c2)) (hcb : zh_n c2.2.2.2 ≤ n0 + R.cells) (hsb : zh_s c2.2.2.2 ≤ s0 + R.slots) (kk : zi_At p l e R s m args below meth c Q D dA b L xs H0 nL n0 s0 c2) : zi_At p l e R s m args below meth c Q D dA b L xs H0 nL n0 s0 (pc, ls, st, h) := by
  intro H als locs cells slots hR hL hlo hn hsl
  replace hR : zi_Rl D dA b L xs H0 h H := hR
  replace hL : zi_LR H0.size b nL als ls := hL
  replace hn : n0 + cells = zh_n h := hn
  replace hsl : s0 + slots = zh_s h := hsl
  obtain ⟨hx, hb, hml, hown, hts, hK, hini, hfr, hlc, hbl⟩ := hC
  dsimp only [zi_st] at hs
  split at hs
  · split at hs
    · rename_i x r hc
      cases hs
      have hcb : zh_n h + 1 ≤ n0 + R.cells := hcb
      have hsb : zh_s h + x.toNatClampNeg ≤ s0 + R.slots := hsb
      obtain ⟨t9, rfl⟩ : ∃ t9, r1 = 100 + t9 := ⟨r1 - 100, by omega⟩
      rw [show 100 + t9 - 100 = t9 by omega] at hty hw
      have ht9 : t9 < 3 := by omega
      have hbyt : componentBytes (zi_aty t9) ≤ 8 ∧ zi_tok t9 (zi_aty t9) = true := by
        match t9, ht9 with
        | 0, _ => decide
        | 1, _ => decide
        | 2, _ => decide
      refine va_newaK hx hb (by rw [hty]; exact hts _ hw) rfl hd rfl hc.1 rfl (by rw [hty]; have := Nat.mul_le_mul hc.2 hbyt.1; omega) (by omega) (by omega) hR.1 fun H1 cA e1 z1 o1 hAr hNm => ?_
      have hcA : cA = dA t9 := by
        have h8 := (zi_kdArr hK.1 (t := t9) (by omega)).2
        rw [hty] at hNm
        match t9, ht9 with
        | 0, _ => exact Option.some.inj (hNm.symm.trans h8)
        | 1, _ => exact Option.some.inj (hNm.symm.trans h8)
        | 2, _ => exact Option.some.inj (hNm.symm.trans h8)
      refine kk H1 als locs (cells + 1) (slots + x.toNatClampNeg) (hR.push (by rw [z1, hR.1]) (fun q hq => o1 q (by rw [← hR.1]; exact hq)) ?_) hL hlo (by show n0 + (cells + 1) = zh_n h + 1; omega) (by show s0 + (slots + x.toNatClampNeg) = zh_s h + x.toNatClampNeg; omega)
      unfold zi_cell
      rw [zh_k_al]
      refine Or.inr ⟨by show 100 ≤ 100 + t9; omega, by show 100 + t9 < 106; omega, ?_⟩
      rw [e1, hcA, hty, zi_dflt hbyt.2]
      show _ = some (arrV (dA (100 + t9 - 100)) _ _)
      rw [show 100 + t9 - 100 = t9 by omega]
      refine congrArg some (congrArg (arrV (dA t9) x.toNatClampNeg) (funext fun j => ?_))
      rw [zi_vd_al]
      exact zr_dflt _ _ _
    · cases hs
  · cases hs
set_option maxHeartbeats 1000000 in
theorem zi_s_anewarrayW {ix : Nat} (hC : zi_Cx p R s m args meth c D dA b L xs H0 cc nL own ini) (hd : decode cc pc = .ok (.anewarray ix, 3)) (hr : r1 = 103) (hw : Cond.classLink (zi_own own) ix "LinkTree$World" ∈ zi_gt) (hs : zi_st (.anewarray ix, len, r1, r2, r3, pi, z) pc ls st h = some (.inl c2)) (hcb : zh_n c2.2.2.2 ≤ n0 + R.cells) (hsb : zh_s c2.2.2.2 ≤ s0 + R.slots) (kk : zi_At p l e R s m args below meth c Q D dA b L xs H0 nL n0 s0 c2) : zi_At p l e R s m args below meth c Q D dA b L xs H0 nL n0 s0 (pc, ls, st, h) := by
  intro H als locs cells slots hR hL hlo hn hsl
  replace hR : zi_Rl D dA b L xs H0 h H := hR
  replace hL : zi_LR H0.size b nL als ls := hL
  replace hn : n0 + cells = zh_n h := hn
  replace hsl : s0 + slots = zh_s h := hsl
  obtain ⟨hx, hb, hml, hown, hts, hK, hini, hfr, hlc, hbl⟩ := hC
  dsimp only [zi_st] at hs
  split at hs
  · split at hs
    · rename_i x r hc
      cases hs
      have hcb : zh_n h + 1 ≤ n0 + R.cells := hcb
      have hsb : zh_s h + x.toNatClampNeg ≤ s0 + R.slots := hsb
      refine W.anew hx hb hown (hts _ hw) (va_AO.use hK.2.2.2.1) rfl hd rfl hc.1 (by omega) (by omega) (by omega) fun cA kA comp g1 g2 g3 g4 => ?_
      obtain ⟨kA2, comp2, -, -, -, g5⟩ := (zi_kdArr hK.1 (t := 3) (by decide)).2
      have hcA : cA = dA 3 := Option.some.inj (g1.symm.trans g5)
      subst hr
      rw [show Value.ref H.size = zr H0.size b (.ref (zh_n h)) by rw [hR.1]; rfl]
      refine kk _ als locs (cells + 1) (slots + x.toNatClampNeg) (hR.push (by simp) (fun q hq => by rw [Array.getElem?_push, if_neg (Nat.ne_of_lt hq)]) ?_) hL hlo (by show n0 + (cells + 1) = zh_n h + 1; omega) (by show s0 + (slots + x.toNatClampNeg) = zh_s h + x.toNatClampNeg; omega)
      unfold zi_cell
      rw [zh_k_al]
      refine Or.inr ⟨by show 100 ≤ 103; decide, by show 103 < 106; decide, ?_⟩
      rw [← hR.1, arrV_new, hcA]
      simp only [Array.getElem?_push_size]
      refine congrArg some (congrArg (arrV (dA 3) x.toNatClampNeg) (funext fun j => ?_))
      rw [zi_vd_al]
      rfl
    · cases hs
  · cases hs
set_option maxHeartbeats 1000000 in
theorem zi_s_anewarrayC {ix : Nat} (hC : zi_Cx p R s m args meth c D dA b L xs H0 cc nL own ini) (hd : decode cc pc = .ok (.anewarray ix, 3)) (hr : r1 = 104) (hw : Cond.classLink (zi_own own) ix "LinkTree$Client" ∈ zi_gt) (hs : zi_st (.anewarray ix, len, r1, r2, r3, pi, z) pc ls st h = some (.inl c2)) (hcb : zh_n c2.2.2.2 ≤ n0 + R.cells) (hsb : zh_s c2.2.2.2 ≤ s0 + R.slots) (kk : zi_At p l e R s m args below meth c Q D dA b L xs H0 nL n0 s0 c2) : zi_At p l e R s m args below meth c Q D dA b L xs H0 nL n0 s0 (pc, ls, st, h) := by
  intro H als locs cells slots hR hL hlo hn hsl
  replace hR : zi_Rl D dA b L xs H0 h H := hR
  replace hL : zi_LR H0.size b nL als ls := hL
  replace hn : n0 + cells = zh_n h := hn
  replace hsl : s0 + slots = zh_s h := hsl
  obtain ⟨hx, hb, hml, hown, hts, hK, hini, hfr, hlc, hbl⟩ := hC
  dsimp only [zi_st] at hs
  split at hs
  · split at hs
    · rename_i x r hc
      cases hs
      have hcb : zh_n h + 1 ≤ n0 + R.cells := hcb
      have hsb : zh_s h + x.toNatClampNeg ≤ s0 + R.slots := hsb
      refine W.anew hx hb hown (hts _ hw) (va_AO.use hK.2.2.2.2.1) rfl hd rfl hc.1 (by omega) (by omega) (by omega) fun cA kA comp g1 g2 g3 g4 => ?_
      obtain ⟨kA2, comp2, -, -, -, g5⟩ := (zi_kdArr hK.1 (t := 4) (by decide)).2
      have hcA : cA = dA 4 := Option.some.inj (g1.symm.trans g5)
      subst hr
      rw [show Value.ref H.size = zr H0.size b (.ref (zh_n h)) by rw [hR.1]; rfl]
      refine kk _ als locs (cells + 1) (slots + x.toNatClampNeg) (hR.push (by simp) (fun q hq => by rw [Array.getElem?_push, if_neg (Nat.ne_of_lt hq)]) ?_) hL hlo (by show n0 + (cells + 1) = zh_n h + 1; omega) (by show s0 + (slots + x.toNatClampNeg) = zh_s h + x.toNatClampNeg; omega)
      unfold zi_cell
      rw [zh_k_al]
      refine Or.inr ⟨by show 100 ≤ 104; decide, by show 104 < 106; decide, ?_⟩
      rw [← hR.1, arrV_new, hcA]
      simp only [Array.getElem?_push_size]
      refine congrArg some (congrArg (arrV (dA 4) x.toNatClampNeg) (funext fun j => ?_))
      rw [zi_vd_al]
      rfl
    · cases hs
  · cases hs
set_option maxHeartbeats 1000000 in
theorem zi_s_iaload (hC : zi_Cx p R s m args meth c D dA b L xs H0 cc nL own ini) (hd : decode cc pc = .ok (.iaload, 1)) (hs : zi_st (.iaload, len, r1, r2, r3, pi, z) pc ls st h = some (.inl c2)) (hcb : zh_n c2.2.2.2 ≤ n0 + R.cells) (hsb : zh_s c2.2.2.2 ≤ s0 + R.slots) (kk : zi_At p l e R s m args below meth c Q D dA b L xs H0 nL n0 s0 c2) : zi_At p l e R s m args below meth c Q D dA b L xs H0 nL n0 s0 (pc, ls, st, h) := by
  intro H als locs cells slots hR hL hlo hn hsl
  replace hR : zi_Rl D dA b L xs H0 h H := hR
  replace hL : zi_LR H0.size b nL als ls := hL
  replace hn : n0 + cells = zh_n h := hn
  replace hsl : s0 + slots = zh_s h := hsl
  obtain ⟨hx, hb, hml, hown, hts, hK, hini, hfr, hlc, hbl⟩ := hC
  dsimp only [zi_st] at hs
  split at hs
  · split at hs
    · rename_i j a r hat
      cases hs
      obtain ⟨ha, hk, hin⟩ := zi_atB_iff.mp hat
      have hlt : j.toNatClampNeg < (zh_k h a).2 := Nat.not_le.mp fun q => hin (Or.inr q)
      exact W.iald hx hb (hR.arr (t := 0) ha hk) ((zi_kdArr hK.1 (t := 0) (by decide)).1 _ _) (fun q => by cases q) (by rw [arrV_size]; exact hin) (v := .int (zh_i h a j.toNatClampNeg)) (by rw [arrV_read _ _ hlt]; rfl) rfl rfl hd (kk H als locs cells slots hR hL hlo hn hsl)
    · cases hs
  · split at hs
    · rename_i j n r hat
      obtain ⟨rfl, hin⟩ := hat
      cases hs
      rw [hR.2.2.1.1] at hin
      have hlt : j.toNatClampNeg < L := Nat.not_le.mp fun q => hin (Or.inr q)
      obtain ⟨scr, x1, x2, x3, x4, x5⟩ := hK.2.1
      refine W.iald hx hb (by rw [hR.2.1 (b 0) hbl]; exact x1) x2 x3 (by rw [x4]; exact hin) (x5 _ hlt) rfl rfl hd ?_
      have k9 := (kk H als locs cells slots hR hL hlo hn hsl)
      dsimp only at k9
      rw [hR.2.2.1.2] at k9
      exact k9
    · cases hs
  · cases hs
set_option maxHeartbeats 1000000 in
theorem zi_s_baload (hC : zi_Cx p R s m args meth c D dA b L xs H0 cc nL own ini) (hd : decode cc pc = .ok (.baload, 1)) (hs : zi_st (.baload, len, r1, r2, r3, pi, z) pc ls st h = some (.inl c2)) (hcb : zh_n c2.2.2.2 ≤ n0 + R.cells) (hsb : zh_s c2.2.2.2 ≤ s0 + R.slots) (kk : zi_At p l e R s m args below meth c Q D dA b L xs H0 nL n0 s0 c2) : zi_At p l e R s m args below meth c Q D dA b L xs H0 nL n0 s0 (pc, ls, st, h) := by
  intro H als locs cells slots hR hL hlo hn hsl
  replace hR : zi_Rl D dA b L xs H0 h H := hR
  replace hL : zi_LR H0.size b nL als ls := hL
  replace hn : n0 + cells = zh_n h := hn
  replace hsl : s0 + slots = zh_s h := hsl
  obtain ⟨hx, hb, hml, hown, hts, hK, hini, hfr, hlc, hbl⟩ := hC
  dsimp only [zi_st] at hs
  split at hs
  · split at hs
    · rename_i j a r hat
      cases hs
      obtain ⟨ha, hk, hin⟩ := zi_atB_iff.mp hat
      have hlt : j.toNatClampNeg < (zh_k h a).2 := Nat.not_le.mp fun q => hin (Or.inr q)
      exact W.zald hx hb (hR.arr (t := 1) ha hk) ((zi_kdArr hK.1 (t := 1) (by decide)).1 _ _) (fun q => by cases q) (by rw [arrV_size]; exact hin) (v := .int (zi_bI (zh_b h a j.toNatClampNeg))) (by rw [arrV_read _ _ hlt]; rfl) rfl rfl hd (kk H als locs cells slots hR hL hlo hn hsl)
    · cases hs
  · cases hs
set_option maxHeartbeats 1000000 in
theorem zi_s_laload (hC : zi_Cx p R s m args meth c D dA b L xs H0 cc nL own ini) (hd : decode cc pc = .ok (.laload, 1)) (hs : zi_st (.laload, len, r1, r2, r3, pi, z) pc ls st h = some (.inl c2)) (hcb : zh_n c2.2.2.2 ≤ n0 + R.cells) (hsb : zh_s c2.2.2.2 ≤ s0 + R.slots) (kk : zi_At p l e R s m args below meth c Q D dA b L xs H0 nL n0 s0 c2) : zi_At p l e R s m args below meth c Q D dA b L xs H0 nL n0 s0 (pc, ls, st, h) := by
  intro H als locs cells slots hR hL hlo hn hsl
  replace hR : zi_Rl D dA b L xs H0 h H := hR
  replace hL : zi_LR H0.size b nL als ls := hL
  replace hn : n0 + cells = zh_n h := hn
  replace hsl : s0 + slots = zh_s h := hsl
  obtain ⟨hx, hb, hml, hown, hts, hK, hini, hfr, hlc, hbl⟩ := hC
  dsimp only [zi_st] at hs
  split at hs
  · split at hs
    · rename_i j a r hat
      cases hs
      obtain ⟨ha, hk, hin⟩ := zi_atB_iff.mp hat
      have hlt : j.toNatClampNeg < (zh_k h a).2 := Nat.not_le.mp fun q => hin (Or.inr q)
      exact W.lald hx hb (hR.arr (t := 2) ha hk) ((zi_kdArr hK.1 (t := 2) (by decide)).1 _ _) (fun q => by cases q) (by rw [arrV_size]; exact hin) (v := .long (zh_l h a j.toNatClampNeg)) (by rw [arrV_read _ _ hlt]; rfl) rfl rfl hd (kk H als locs cells slots hR hL hlo hn hsl)
    · cases hs
  · cases hs
set_option maxHeartbeats 1000000 in
theorem zi_s_aaload (hC : zi_Cx p R s m args meth c D dA b L xs H0 cc nL own ini) (hd : decode cc pc = .ok (.aaload, 1)) (hs : zi_st (.aaload, len, r1, r2, r3, pi, z) pc ls st h = some (.inl c2)) (hcb : zh_n c2.2.2.2 ≤ n0 + R.cells) (hsb : zh_s c2.2.2.2 ≤ s0 + R.slots) (kk : zi_At p l e R s m args below meth c Q D dA b L xs H0 nL n0 s0 c2) : zi_At p l e R s m args below meth c Q D dA b L xs H0 nL n0 s0 (pc, ls, st, h) := by
  intro H als locs cells slots hR hL hlo hn hsl
  replace hR : zi_Rl D dA b L xs H0 h H := hR
  replace hL : zi_LR H0.size b nL als ls := hL
  replace hn : n0 + cells = zh_n h := hn
  replace hsl : s0 + slots = zh_s h := hsl
  obtain ⟨hx, hb, hml, hown, hts, hK, hini, hfr, hlc, hbl⟩ := hC
  dsimp only [zi_st] at hs
  split at hs
  · split at hs
    · rename_i j a r hat
      cases hs
      rcases hat with hat | hat | hat
      · obtain ⟨ha, hk, hin⟩ := zi_atB_iff.mp hat
        have hlt : j.toNatClampNeg < (zh_k h a).2 := Nat.not_le.mp fun q => hin (Or.inr q)
        exact W.aald (ty := zi_aty 3) hx hb (hR.arr (t := 3) ha hk) ((zi_kdArr hK.1 (t := 3) (by decide)).1 _ _) rfl (fun q => by cases q) (by rw [arrV_size]; exact hin) (v := zr H0.size b (zh_r h a j.toNatClampNeg)) (by rw [arrV_read _ _ hlt]; rfl) rfl rfl hd (kk H als locs cells slots hR hL hlo hn hsl)
      · obtain ⟨ha, hk, hin⟩ := zi_atB_iff.mp hat
        have hlt : j.toNatClampNeg < (zh_k h a).2 := Nat.not_le.mp fun q => hin (Or.inr q)
        exact W.aald (ty := zi_aty 4) hx hb (hR.arr (t := 4) ha hk) ((zi_kdArr hK.1 (t := 4) (by decide)).1 _ _) rfl (fun q => by cases q) (by rw [arrV_size]; exact hin) (v := zr H0.size b (zh_r h a j.toNatClampNeg)) (by rw [arrV_read _ _ hlt]; rfl) rfl rfl hd (kk H als locs cells slots hR hL hlo hn hsl)
      · obtain ⟨ha, hk, hin⟩ := zi_atB_iff.mp hat
        have hlt : j.toNatClampNeg < (zh_k h a).2 := Nat.not_le.mp fun q => hin (Or.inr q)
        exact W.aald (ty := zi_aty 5) hx hb (hR.arr (t := 5) ha hk) ((zi_kdArr hK.1 (t := 5) (by decide)).1 _ _) rfl (fun q => by cases q) (by rw [arrV_size]; exact hin) (v := zr H0.size b (zh_r h a j.toNatClampNeg)) (by rw [arrV_read _ _ hlt]; rfl) rfl rfl hd (kk H als locs cells slots hR hL hlo hn hsl)
    · cases hs
  · cases hs
set_option maxHeartbeats 1000000 in
theorem zi_s_iastore (hC : zi_Cx p R s m args meth c D dA b L xs H0 cc nL own ini) (hd : decode cc pc = .ok (.iastore, 1)) (hs : zi_st (.iastore, len, r1, r2, r3, pi, z) pc ls st h = some (.inl c2)) (hcb : zh_n c2.2.2.2 ≤ n0 + R.cells) (hsb : zh_s c2.2.2.2 ≤ s0 + R.slots) (kk : zi_At p l e R s m args below meth c Q D dA b L xs H0 nL n0 s0 c2) : zi_At p l e R s m args below meth c Q D dA b L xs H0 nL n0 s0 (pc, ls, st, h) := by
  intro H als locs cells slots hR hL hlo hn hsl
  replace hR : zi_Rl D dA b L xs H0 h H := hR
  replace hL : zi_LR H0.size b nL als ls := hL
  replace hn : n0 + cells = zh_n h := hn
  replace hsl : s0 + slots = zh_s h := hsl
  obtain ⟨hx, hb, hml, hown, hts, hK, hini, hfr, hlc, hbl⟩ := hC
  dsimp only [zi_st] at hs
  split at hs
  · split at hs
    · rename_i v j a r hat
      cases hs
      obtain ⟨ha, hk, hin⟩ := zi_atB_iff.mp hat
      obtain ⟨f1, f2, f3, f4, f5, f6⟩ := zi_wr_facts (show zi_wr h 0 a j.toNatClampNeg (.int v) = some _ from rfl)
      refine W.iast hx hb (hR.arr (t := 0) ha hk) ((zi_kdArr hK.1 (t := 0) (by decide)).1 _ _) (fun q => by cases q) (by rw [arrV_size]; exact hin) rfl rfl hd fun H' e1 e2 e3 => ?_
      exact kk H' als _ cells slots (hR.setA (t := 0) (j := j.toNatClampNeg) (v := (.int v)) ha hk (by decide) f1 f3 f4 f5 f6 e2 e3 e1) hL (zi_locs1 hlo) hn hsl
    · cases hs
  · cases hs
set_option maxHeartbeats 1000000 in
theorem zi_s_lastore (hC : zi_Cx p R s m args meth c D dA b L xs H0 cc nL own ini) (hd : decode cc pc = .ok (.lastore, 1)) (hs : zi_st (.lastore, len, r1, r2, r3, pi, z) pc ls st h = some (.inl c2)) (hcb : zh_n c2.2.2.2 ≤ n0 + R.cells) (hsb : zh_s c2.2.2.2 ≤ s0 + R.slots) (kk : zi_At p l e R s m args below meth c Q D dA b L xs H0 nL n0 s0 c2) : zi_At p l e R s m args below meth c Q D dA b L xs H0 nL n0 s0 (pc, ls, st, h) := by
  intro H als locs cells slots hR hL hlo hn hsl
  replace hR : zi_Rl D dA b L xs H0 h H := hR
  replace hL : zi_LR H0.size b nL als ls := hL
  replace hn : n0 + cells = zh_n h := hn
  replace hsl : s0 + slots = zh_s h := hsl
  obtain ⟨hx, hb, hml, hown, hts, hK, hini, hfr, hlc, hbl⟩ := hC
  dsimp only [zi_st] at hs
  split at hs
  · split at hs
    · rename_i v j a r hat
      cases hs
      obtain ⟨ha, hk, hin⟩ := zi_atB_iff.mp hat
      obtain ⟨f1, f2, f3, f4, f5, f6⟩ := zi_wr_facts (show zi_wr h 2 a j.toNatClampNeg (.long v) = some _ from rfl)
      refine W.last hx hb (hR.arr (t := 2) ha hk) ((zi_kdArr hK.1 (t := 2) (by decide)).1 _ _) (fun q => by cases q) (by rw [arrV_size]; exact hin) rfl rfl hd fun H' e1 e2 e3 => ?_
      exact kk H' als _ cells slots (hR.setA (t := 2) (j := j.toNatClampNeg) (v := (.long v)) ha hk (by decide) f1 f3 f4 f5 f6 e2 e3 e1) hL (zi_locs1 hlo) hn hsl
    · cases hs
  · cases hs
set_option maxHeartbeats 1000000 in
theorem zi_s_bastore (hC : zi_Cx p R s m args meth c D dA b L xs H0 cc nL own ini) (hd : decode cc pc = .ok (.bastore, 1)) (hs : zi_st (.bastore, len, r1, r2, r3, pi, z) pc ls st h = some (.inl c2)) (hcb : zh_n c2.2.2.2 ≤ n0 + R.cells) (hsb : zh_s c2.2.2.2 ≤ s0 + R.slots) (kk : zi_At p l e R s m args below meth c Q D dA b L xs H0 nL n0 s0 c2) : zi_At p l e R s m args below meth c Q D dA b L xs H0 nL n0 s0 (pc, ls, st, h) := by
  intro H als locs cells slots hR hL hlo hn hsl
  replace hR : zi_Rl D dA b L xs H0 h H := hR
  replace hL : zi_LR H0.size b nL als ls := hL
  replace hn : n0 + cells = zh_n h := hn
  replace hsl : s0 + slots = zh_s h := hsl
  obtain ⟨hx, hb, hml, hown, hts, hK, hini, hfr, hlc, hbl⟩ := hC
  dsimp only [zi_st] at hs
  split at hs
  · split at hs
    · rename_i v j a r hat
      split at hs
      · rename_i h2' hw2
        cases hs
        obtain ⟨ha, hk, hin⟩ := zi_atB_iff.mp hat
        obtain ⟨f1, f2, f3, f4, f5, f6⟩ := zi_wr_facts hw2
        have hfit9 := (zi_wr_fits (B := H0.size) (b := b) (ty := .boolean) hw2 rfl).1
        refine W.zast hx hb (hR.arr (t := 1) ha hk) ((zi_kdArr hK.1 (t := 1) (by decide)).1 _ _) (fun q => by cases q) (by rw [arrV_size]; exact hin) rfl rfl hd fun H' e1 e2 e3 => ?_
        exact kk H' als _ cells slots (hR.setA (t := 1) (j := j.toNatClampNeg) (v := .int v) ha hk (by decide) f1 f3 f4 f5 f6 e2 e3 (by rw [e1]; exact congrArg (fun q => some ((arrV _ _ _).setSlot _ q)) hfit9)) hL (zi_locs1 hlo) (by show n0 + cells = zh_n h2'; rw [f1]; exact hn) (by show s0 + slots = zh_s h2'; rw [f2]; exact hsl)
      · cases hs
    · cases hs
  · cases hs
set_option maxHeartbeats 1000000 in
theorem zi_s_aastore (hC : zi_Cx p R s m args meth c D dA b L xs H0 cc nL own ini) (hd : decode cc pc = .ok (.aastore, 1)) (hs : zi_st (.aastore, len, r1, r2, r3, pi, z) pc ls st h = some (.inl c2)) (hcb : zh_n c2.2.2.2 ≤ n0 + R.cells) (hsb : zh_s c2.2.2.2 ≤ s0 + R.slots) (kk : zi_At p l e R s m args below meth c Q D dA b L xs H0 nL n0 s0 c2) : zi_At p l e R s m args below meth c Q D dA b L xs H0 nL n0 s0 (pc, ls, st, h) := by
  intro H als locs cells slots hR hL hlo hn hsl
  replace hR : zi_Rl D dA b L xs H0 h H := hR
  replace hL : zi_LR H0.size b nL als ls := hL
  replace hn : n0 + cells = zh_n h := hn
  replace hsl : s0 + slots = zh_s h := hsl
  obtain ⟨hx, hb, hml, hown, hts, hK, hini, hfr, hlc, hbl⟩ := hC
  dsimp only [zi_st] at hs
  split at hs
  · split at hs
    · rename_i q j a r hat
      cases hs
      obtain ⟨hat, hq, hqk⟩ := hat
      obtain ⟨f1, f2, f3, f4, f5, f6⟩ := zi_wr_facts (show zi_wr h 3 a j.toNatClampNeg (.ref q) = some _ from rfl)
      rcases hat with hat | hat
      · obtain ⟨ha, hk, hin⟩ := zi_atB_iff.mp hat
        have hlt : j.toNatClampNeg < (zh_k h a).2 := Nat.not_le.mp fun q => hin (Or.inr q)
        have h09 : ¬ j < 0 := fun q => hin (Or.inl q)
        have hqk' : (zh_k h q).1 = 6 := by rw [hqk, hk]; rfl
        obtain ⟨cellV, g1, g2, g3, -⟩ := hR.obj hq hqk' (by decide)
        have hcls := (hK.1.1 6 _ (zi_vw 6 (by decide))).2
        obtain ⟨kA, comp, k1, k2, k3, -⟩ := (zi_kdArr hK.1 (t := 3) (by decide)).2
        have hcomp : comp = D.1 6 := Option.some.inj (k3.symm.trans hcls.1)
        subst hcomp
        obtain ⟨kC, hkC, -⟩ := hcls.2
        refine W.aast hx hb (hR.arr (t := 3) ha hk) (fun q h => by cases h) (fun h => by cases h) k1 k2 rfl hkC ⟨h09, by rw [arrV_size]; exact hlt⟩ g1 (fun q h => by rw [g3] at h; cases h) (by rw [g2]; exact hkC) (by rw [g2]; exact va_assign hcls) rfl rfl hd fun H' e1 e2 e3 => ?_
        exact kk H' als _ cells slots (hR.setA (t := 3) (j := j.toNatClampNeg) (v := .ref q) ha hk (by decide) f1 f3 f4 f5 f6 e2 e3 e1) hL (zi_locs1 hlo) hn hsl
      · obtain ⟨ha, hk, hin⟩ := zi_atB_iff.mp hat
        have hlt : j.toNatClampNeg < (zh_k h a).2 := Nat.not_le.mp fun q => hin (Or.inr q)
        have h09 : ¬ j < 0 := fun q => hin (Or.inl q)
        have hqk' : (zh_k h q).1 = 0 := by rw [hqk, hk]; rfl
        obtain ⟨cellV, g1, g2, g3, -⟩ := hR.obj hq hqk' (by decide)
        have hcls := (hK.1.1 0 _ (zi_vw 0 (by decide))).2
        obtain ⟨kA, comp, k1, k2, k3, -⟩ := (zi_kdArr hK.1 (t := 4) (by decide)).2
        have hcomp : comp = D.1 0 := Option.some.inj (k3.symm.trans hcls.1)
        subst hcomp
        obtain ⟨kC, hkC, -⟩ := hcls.2
        refine W.aast hx hb (hR.arr (t := 4) ha hk) (fun q h => by cases h) (fun h => by cases h) k1 k2 rfl hkC ⟨h09, by rw [arrV_size]; exact hlt⟩ g1 (fun q h => by rw [g3] at h; cases h) (by rw [g2]; exact hkC) (by rw [g2]; exact va_assign hcls) rfl rfl hd fun H' e1 e2 e3 => ?_
        exact kk H' als _ cells slots (hR.setA (t := 4) (j := j.toNatClampNeg) (v := .ref q) ha hk (by decide) f1 f3 f4 f5 f6 e2 e3 e1) hL (zi_locs1 hlo) hn hsl
    · cases hs
  · cases hs
set_option maxHeartbeats 1000000 in
theorem zi_s_arraylength (hC : zi_Cx p R s m args meth c D dA b L xs H0 cc nL own ini) (hd : decode cc pc = .ok (.arraylength, 1)) (hs : zi_st (.arraylength, len, r1, r2, r3, pi, z) pc ls st h = some (.inl c2)) (hcb : zh_n c2.2.2.2 ≤ n0 + R.cells) (hsb : zh_s c2.2.2.2 ≤ s0 + R.slots) (kk : zi_At p l e R s m args below meth c Q D dA b L xs H0 nL n0 s0 c2) : zi_At p l e R s m args below meth c Q D dA b L xs H0 nL n0 s0 (pc, ls, st, h) := by
  intro H als locs cells slots hR hL hlo hn hsl
  replace hR : zi_Rl D dA b L xs H0 h H := hR
  replace hL : zi_LR H0.size b nL als ls := hL
  replace hn : n0 + cells = zh_n h := hn
  replace hsl : s0 + slots = zh_s h := hsl
  obtain ⟨hx, hb, hml, hown, hts, hK, hini, hfr, hlc, hbl⟩ := hC
  dsimp only [zi_st] at hs
  split at hs
  · split at hs
    · rename_i a r hat
      obtain ⟨ha, hk1, hk2⟩ := hat
      cases hs
      obtain ⟨t, ht⟩ : ∃ t, (zh_k h a).1 = 100 + t := ⟨(zh_k h a).1 - 100, by omega⟩
      exact W.alen (n := Int32.ofNat (zh_k h a).2) hx hb (hR.arr (t := t) ha ht) ((zi_kdArr hK.1 (t := t) (by omega)).1 _ _) (by rw [arrV_size]) rfl rfl hd (kk H als locs cells slots hR hL hlo hn hsl)
    · cases hs
  · split at hs
    · rename_i n r hn0
      subst hn0
      cases hs
      obtain ⟨scr, x1, x2, x3, x4, x5⟩ := hK.2.1
      refine W.alen (n := Int32.ofNat L) hx hb (by rw [hR.2.1 (b 0) hbl]; exact x1) x2 (by rw [x4]) rfl rfl hd ?_
      have k9 := (kk H als locs cells slots hR hL hlo hn hsl)
      dsimp only at k9
      rw [hR.2.2.1.1] at k9
      exact k9
    · cases hs
  · cases hs
set_option maxHeartbeats 1000000 in
theorem zi_s_objInit {ix : Nat} (hC : zi_Cx p R s m args meth c D dA b L xs H0 cc nL own ini) (hd : decode cc pc = .ok (.invokespecial ix, 3)) (hr : r2 = 3) (hw : Cond.methodLink (zi_own own) ix objectInit ∈ zi_gt) (hs : zi_st (.invokespecial ix, len, r1, r2, r3, pi, z) pc ls st h = some (.inl c2)) (hcb : zh_n c2.2.2.2 ≤ n0 + R.cells) (hsb : zh_s c2.2.2.2 ≤ s0 + R.slots) (kk : zi_At p l e R s m args below meth c Q D dA b L xs H0 nL n0 s0 c2) : zi_At p l e R s m args below meth c Q D dA b L xs H0 nL n0 s0 (pc, ls, st, h) := by
  intro H als locs cells slots hR hL hlo hn hsl
  replace hR : zi_Rl D dA b L xs H0 h H := hR
  replace hL : zi_LR H0.size b nL als ls := hL
  replace hn : n0 + cells = zh_n h := hn
  replace hsl : s0 + slots = zh_s h := hsl
  obtain ⟨hx, hb, hml, hown, hts, hK, hini, hfr, hlc, hbl⟩ := hC
  dsimp only [zi_st] at hs
  rw [if_pos hr] at hs
  split at hs
  · split at hs
    · rename_i a r hl
      cases hs
      exact W.objInit hx hb hown (hts _ hw) (hts _ zi_w_objI) (hts _ zi_w_objC) rfl (by rw [hml]; exact hL.1.1) rfl hd (by omega) (by have h9 := zi_cat4 H0.size b hl; show 2 * 0 + _ + 12 ≤ _; omega) (kk H als locs cells slots hR hL hlo hn hsl)
    · cases hs
  · cases hs
set_option maxHeartbeats 1000000 in
theorem zi_s_max {ix : Nat} (hC : zi_Cx p R s m args meth c D dA b L xs H0 cc nL own ini) (hd : decode cc pc = .ok (.invokestatic ix, 3)) (hr : r2 = 9) (hw : Cond.methodLink (zi_own own) ix Lib.Math.max.name ∈ zi_gt) (hs : zi_st (.invokestatic ix, len, r1, r2, r3, pi, z) pc ls st h = some (.inl c2)) (hcb : zh_n c2.2.2.2 ≤ n0 + R.cells) (hsb : zh_s c2.2.2.2 ≤ s0 + R.slots) (kk : zi_At p l e R s m args below meth c Q D dA b L xs H0 nL n0 s0 c2) : zi_At p l e R s m args below meth c Q D dA b L xs H0 nL n0 s0 (pc, ls, st, h) := by
  intro H als locs cells slots hR hL hlo hn hsl
  replace hR : zi_Rl D dA b L xs H0 h H := hR
  replace hL : zi_LR H0.size b nL als ls := hL
  replace hn : n0 + cells = zh_n h := hn
  replace hsl : s0 + slots = zh_s h := hsl
  obtain ⟨hx, hb, hml, hown, hts, hK, hini, hfr, hlc, hbl⟩ := hC
  dsimp only [zi_st] at hs
  subst hr
  rw [if_neg (by rintro ⟨q | q, -⟩ <;> exact absurd q (by decide))] at hs
  split at hs
  · exfalso; omega
  · split at hs
    · rename_i y x r hl
      cases hs
      have hcb : zh_n h ≤ n0 + R.cells := hcb
      have hsb : zh_s h ≤ s0 + R.slots := hsb
      exact va_mmax hx hb (by rw [hml]; exact hL.1.1.symm) hown (hts _ hw) (hts _ zi_w_mxS) (hts _ zi_w_mI) (hts _ zi_w_mxC) (by omega) (by have := zi_cat4 H0.size b hl; omega) (by omega) (by omega) hd (kk H als locs cells slots hR hL hlo hn hsl)
    · cases hs
  · exfalso; omega
  · cases hs
set_option maxHeartbeats 1000000 in
theorem zi_s_min {ix : Nat} (hC : zi_Cx p R s m args meth c D dA b L xs H0 cc nL own ini) (hd : decode cc pc = .ok (.invokestatic ix, 3)) (hr : r2 = 10) (hw : Cond.methodLink (zi_own own) ix Lib.Math.min.name ∈ zi_gt) (hs : zi_st (.invokestatic ix, len, r1, r2, r3, pi, z) pc ls st h = some (.inl c2)) (hcb : zh_n c2.2.2.2 ≤ n0 + R.cells) (hsb : zh_s c2.2.2.2 ≤ s0 + R.slots) (kk : zi_At p l e R s m args below meth c Q D dA b L xs H0 nL n0 s0 c2) : zi_At p l e R s m args below meth c Q D dA b L xs H0 nL n0 s0 (pc, ls, st, h) := by
  intro H als locs cells slots hR hL hlo hn hsl
  replace hR : zi_Rl D dA b L xs H0 h H := hR
  replace hL : zi_LR H0.size b nL als ls := hL
  replace hn : n0 + cells = zh_n h := hn
  replace hsl : s0 + slots = zh_s h := hsl
  obtain ⟨hx, hb, hml, hown, hts, hK, hini, hfr, hlc, hbl⟩ := hC
  dsimp only [zi_st] at hs
  subst hr
  rw [if_neg (by rintro ⟨q | q, -⟩ <;> exact absurd q (by decide))] at hs
  split at hs
  · exfalso; omega
  · exfalso; omega
  · split at hs
    · rename_i y x r hl
      cases hs
      have hcb : zh_n h ≤ n0 + R.cells := hcb
      have hsb : zh_s h ≤ s0 + R.slots := hsb
      exact va_mmin hx hb (by rw [hml]; exact hL.1.1.symm) hown (hts _ hw) (hts _ zi_w_mnS) (hts _ zi_w_mI) (hts _ zi_w_mnC) (by omega) (by have := zi_cat4 H0.size b hl; omega) (by omega) (by omega) hd (kk H als locs cells slots hR hL hlo hn hsl)
    · cases hs
  · cases hs
set_option maxHeartbeats 1000000 in
theorem zi_s_copy {ix : Nat} (hC : zi_Cx p R s m args meth c D dA b L xs H0 cc nL own ini) (hd : decode cc pc = .ok (.invokestatic ix, 3)) (hr : r2 = 6) (hw : Cond.methodLink (zi_own own) ix arraycopyName ∈ zi_gt) (hs : zi_st (.invokestatic ix, len, r1, r2, r3, pi, z) pc ls st h = some (.inl c2)) (hcb : zh_n c2.2.2.2 ≤ n0 + R.cells) (hsb : zh_s c2.2.2.2 ≤ s0 + R.slots) (kk : zi_At p l e R s m args below meth c Q D dA b L xs H0 nL n0 s0 c2) : zi_At p l e R s m args below meth c Q D dA b L xs H0 nL n0 s0 (pc, ls, st, h) := by
  intro H als locs cells slots hR hL hlo hn hsl
  replace hR : zi_Rl D dA b L xs H0 h H := hR
  replace hL : zi_LR H0.size b nL als ls := hL
  replace hn : n0 + cells = zh_n h := hn
  replace hsl : s0 + slots = zh_s h := hsl
  obtain ⟨hx, hb, hml, hown, hts, hK, hini, hfr, hlc, hbl⟩ := hC
  dsimp only [zi_st] at hs
  subst hr
  rw [if_neg (by rintro ⟨q | q, -⟩ <;> exact absurd q (by decide))] at hs
  split at hs
  · rename_i n dp d sp s' r hq9
    split at hs
    · rename_i hc
      obtain ⟨hl, hs0, hd0, c1, c2', c3, c4, c5⟩ := hc
      split at hs
      · rename_i hkk
        cases hs
        refine zi_Wcopy (ty := .int) hx hb (by rw [hml]; exact hL.1.1.symm) hown (hts _ hw) (hts _ zi_w_acN) (hts _ zi_w_acS) (hts _ zi_w_acI) (hR.arr (t := 0) hs0 hkk.1) (hR.arr (t := 0) hd0 hkk.2) (zi_kdArr hK.1 (t := 0) (by decide)).1 (zi_kdArr hK.1 (t := 0) (by decide)).1 rfl c1 c2' c3 c4 c5 (fun _ _ => rfl) (by omega) (by have := zi_cat4 H0.size b hl; have e9 : nativeFrameWords "java/lang/System" "arraycopy" 5 = 7 := (by decide +kernel); omega) hd fun H1 Lc hLc z1 o1 e1 => ?_
        refine kk H1 als _ cells slots (hR.set (a := d) rfl rfl ⟨rfl, rfl⟩ (fun t' a' k' hne => ?_) z1 o1 ?_) hL (fun q hq => ?_) hn hsl
        · unfold zi_vd
          split
          · show Value.int (zh_c (zh_i h) _ _ _ _ _ a' k') = _; rw [zh_c, if_neg (fun q => hne q.1)]
          · rfl
          · rfl
          · rfl
        · refine Or.inr ⟨by show 100 ≤ (zh_k h d).1; omega, by show (zh_k h d).1 < 106; omega, ?_⟩
          rw [e1]
          show _ = some (arrV (dA ((zh_k h d).1 - 100)) (zh_k h d).2 _)
          rw [show zh_k (zh_ci h s' sp.toNatClampNeg d dp.toNatClampNeg n.toNatClampNeg) d = zh_k h d from rfl, hkk.2]
          refine congrArg some (congrArg (arrV (dA 0) (zh_k h d).2) (funext fun j => ?_))
          show Value.int (va_cpy _ _ _ _ _ j) = Value.int (zh_c (zh_i h) _ _ _ _ _ d j)
          unfold va_cpy zh_c
          by_cases hj : dp.toNatClampNeg ≤ j ∧ j < dp.toNatClampNeg + n.toNatClampNeg
          · rw [if_pos hj, if_pos ⟨rfl, hj⟩]
          · rw [if_neg hj, if_neg (fun q => hj q.2)]
        · rcases List.mem_append.mp hq with h8 | h8
          · exact hlo q h8
          · rw [hLc q h8]; show H0.size ≤ H0.size + d; omega
      · split at hs
        · rename_i hkk
          cases hs
          refine zi_Wcopy (ty := .boolean) (f := fun j => zi_bI (zh_b h s' j)) (g := fun j => zi_bI (zh_b h d j)) hx hb (by rw [hml]; exact hL.1.1.symm) hown (hts _ hw) (hts _ zi_w_acN) (hts _ zi_w_acS) (hts _ zi_w_acI) (hR.arr (t := 1) hs0 hkk.1) (hR.arr (t := 1) hd0 hkk.2) (zi_kdArr hK.1 (t := 1) (by decide)).1 (zi_kdArr hK.1 (t := 1) (by decide)).1 rfl c1 c2' c3 c4 c5 (fun i _ => by cases zh_b h s' (sp.toNatClampNeg + i) <;> rfl) (by omega) (by have := zi_cat4 H0.size b hl; have e9 : nativeFrameWords "java/lang/System" "arraycopy" 5 = 7 := (by decide +kernel); omega) hd fun H1 Lc hLc z1 o1 e1 => ?_
          refine kk H1 als _ cells slots (hR.set (a := d) rfl rfl ⟨rfl, rfl⟩ (fun t' a' k' hne => ?_) z1 o1 ?_) hL (fun q hq => ?_) hn hsl
          · unfold zi_vd
            split
            · rfl
            · show Value.int (zi_bI (zh_c (zh_b h) _ _ _ _ _ a' k')) = _; rw [zh_c, if_neg (fun q => hne q.1)]
            · rfl
            · rfl
          · refine Or.inr ⟨by show 100 ≤ (zh_k h d).1; omega, by show (zh_k h d).1 < 106; omega, ?_⟩
            rw [e1]
            show _ = some (arrV (dA ((zh_k h d).1 - 100)) (zh_k h d).2 _)
            rw [show zh_k (zh_cb h s' sp.toNatClampNeg d dp.toNatClampNeg n.toNatClampNeg) d = zh_k h d from rfl, hkk.2]
            refine congrArg some (congrArg (arrV (dA 1) (zh_k h d).2) (funext fun j => ?_))
            show Value.int (va_cpy _ _ _ _ _ j) = Value.int (zi_bI (zh_c (zh_b h) _ _ _ _ _ d j))
            unfold va_cpy zh_c
            by_cases hj : dp.toNatClampNeg ≤ j ∧ j < dp.toNatClampNeg + n.toNatClampNeg
            · rw [if_pos hj, if_pos ⟨rfl, hj⟩]
            · rw [if_neg hj, if_neg (fun q => hj q.2)]
          · rcases List.mem_append.mp hq with h8 | h8
            · exact hlo q h8
            · rw [hLc q h8]; show H0.size ≤ H0.size + d; omega
        · cases hs
    · cases hs
  · exfalso; omega
  · exfalso; omega
  · cases hs
set_option maxHeartbeats 1000000 in
theorem zi_s_multianewarray {ix : Nat} (hC : zi_Cx p R s m args meth c D dA b L xs H0 cc nL own ini) (hd : decode cc pc = .ok (.multianewarray ix 2, 4)) (hw1 : Cond.classLink (zi_own own) ix ("[" ++ (FieldType.array .int).toString) ∈ zi_gt) (hw2 : Cond.arrayClass .int ∈ zi_gt) (hs : zi_st (.multianewarray ix 2, len, r1, r2, r3, pi, z) pc ls st h = some (.inl c2)) (hcb : zh_n c2.2.2.2 ≤ n0 + R.cells) (hsb : zh_s c2.2.2.2 ≤ s0 + R.slots) (kk : zi_At p l e R s m args below meth c Q D dA b L xs H0 nL n0 s0 c2) : zi_At p l e R s m args below meth c Q D dA b L xs H0 nL n0 s0 (pc, ls, st, h) := by
  intro H als locs cells slots hR hL hlo hn hsl
  replace hR : zi_Rl D dA b L xs H0 h H := hR
  replace hL : zi_LR H0.size b nL als ls := hL
  replace hn : n0 + cells = zh_n h := hn
  replace hsl : s0 + slots = zh_s h := hsl
  obtain ⟨hx, hb, hml, hown, hts, hK, hini, hfr, hlc, hbl⟩ := hC
  dsimp only [zi_st] at hs
  split at hs
  · split at hs
    · rename_i y x r hc
      obtain ⟨⟨x1, x2⟩, y1, y2⟩ := hc
      cases hs
      have hcb : zh_n h + 1 + x.toNatClampNeg ≤ n0 + R.cells := hcb
      have hsb : zh_s h + x.toNatClampNeg + x.toNatClampNeg * y.toNatClampNeg ≤ s0 + R.slots := hsb
      intro T hT Xs
      obtain ⟨vm₁, cA, comp, fA, fC, X', step⟩ := zm_row Xs hx hown (hts _ hw1) hK.2.2.2.2.2.1 (hts _ hw2) (g := F0 m pc als (.int y :: .int x :: r.map (zr H0.size b))) rfl (by rw [hb]; exact hd) rfl x1 y1 (by omega) (by omega) (by omega) (by omega)
      have hcA : cA = dA 5 := Option.some.inj (fA.symm.trans (zi_kdArr hK.1 (t := 5) (by decide)).2)
      have hcc : comp = dA 0 := Option.some.inj (fC.symm.trans (zi_kdArr hK.1 (t := 0) (by decide)).2)
      subst hcA
      subst hcc
      have hTh : (T.setVm vm₁).heap = H := hT
      obtain ⟨f1, f2, f3, f4, f5, f6⟩ := zm_F_facts (T.setVm vm₁) (dA 5) (dA 0) x.toNatClampNeg y.toNatClampNeg x.toNatClampNeg
      rw [hTh] at f1 f2 f5 f6
      have h1 := hR.1
      have hRl : zi_Rl D dA b L xs H0 (zh_mn h x.toNatClampNeg y.toNatClampNeg) (zm_F (T.setVm vm₁) (dA 5) (dA 0) x.toNatClampNeg y.toNatClampNeg x.toNatClampNeg).heap := by
        refine ⟨by rw [f1, h1]; show _ = H0.size + (zh_n h + 1 + x.toNatClampNeg); omega, fun q hq => by rw [f5 q (by omega)]; exact hR.2.1 q hq, hR.2.2.1, fun a ha => ?_⟩
        have ha : a < zh_n h + 1 + x.toNatClampNeg := ha
        by_cases e1 : a = zh_n h
        · subst e1
          have hkk : zh_k (zh_mn h x.toNatClampNeg y.toNatClampNeg) (zh_n h) = (105, x.toNatClampNeg) := by show (if zh_n h = zh_n h then _ else _) = _; rw [if_pos rfl]
          unfold zi_cell
          rw [hkk]
          refine Or.inr ⟨by show 100 ≤ 105; decide, by show 105 < 106; decide, ?_⟩
          rw [← h1, f2]
          refine congrArg some ?_
          unfold zm_o
          show arrV (dA 5) x.toNatClampNeg _ = arrV (dA 5) x.toNatClampNeg _
          unfold arrV
          congr 2
          funext j
          show (if j.val < x.toNatClampNeg then Value.ref (H.size + 1 + j.val) else .null) = zr H0.size b (if zh_n h = zh_n h then Value.ref (zh_n h + 1 + j.val) else _)
          rw [if_pos j.isLt, if_pos rfl, h1]
          show Value.ref (H0.size + zh_n h + 1 + j.val) = Value.ref (H0.size + (zh_n h + 1 + j.val))
          have e9 : ∀ A B C : Nat, A + B + 1 + C = A + (B + 1 + C) := fun A B C => by omega
          exact congrArg Value.ref (e9 H0.size (zh_n h) j.val)
        · by_cases e2 : zh_n h < a
          · have hkk : zh_k (zh_mn h x.toNatClampNeg y.toNatClampNeg) a = (100, y.toNatClampNeg) := by show (if a = zh_n h then _ else if zh_n h < a ∧ a ≤ zh_n h + x.toNatClampNeg then _ else _) = _; rw [if_neg e1, if_pos ⟨e2, by omega⟩]
            unfold zi_cell
            rw [hkk]
            refine Or.inr ⟨by show 100 ≤ 100; decide, by show 100 < 106; decide, ?_⟩
            have h9 := f6 (a - zh_n h - 1) (by omega)
            rw [show H.size + 1 + (a - zh_n h - 1) = H0.size + a by omega] at h9
            rw [h9]
            refine congrArg some (congrArg (arrV (dA 0) y.toNatClampNeg) (funext fun j => ?_))
            show Value.int 0 = Value.int (if zh_n h ≤ a ∧ a ≤ zh_n h + x.toNatClampNeg then 0 else _)
            rw [if_pos ⟨by omega, by omega⟩]
          · refine (hR.2.2.2 a (by omega)).kept ?_ (fun t k => ?_) (f5 _ (by omega))
            · show (if a = zh_n h then _ else if zh_n h < a ∧ a ≤ zh_n h + x.toNatClampNeg then _ else _) = _
              rw [if_neg e1, if_neg (fun q => e2 q.1)]
            · unfold zi_vd
              split
              · show Value.int (if zh_n h ≤ a ∧ a ≤ zh_n h + x.toNatClampNeg then 0 else _) = _
                rw [if_neg (fun q => by omega)]
              · rfl
              · rfl
              · show (if a = zh_n h then _ else _) = _
                rw [if_neg e1]
      obtain ⟨t, a1, b1⟩ := kk _ als _ (cells + 1 + x.toNatClampNeg) (slots + x.toNatClampNeg + x.toNatClampNeg * y.toNatClampNeg) hRl hL (fun q hq => by
        rcases List.mem_append.mp hq with h8 | h8
        · exact hlo q h8
        · obtain ⟨z9, -, hz9⟩ := List.mem_map.mp h8
          rw [← hz9]
          show H0.size ≤ T.heap.size
          rw [hT, h1]; omega) (by show n0 + (cells + 1 + x.toNatClampNeg) = zh_n h + 1 + x.toNatClampNeg; omega) (by show s0 + (slots + x.toNatClampNeg + x.toNatClampNeg * y.toNatClampNeg) = zh_s h + x.toNatClampNeg + x.toNatClampNeg * y.toNatClampNeg; omega) _ rfl X'
      refine ⟨t, step t ?_, b1⟩
      have e9 : Value.ref T.heap.size = zr H0.size b (.ref (zh_n h)) := by rw [hT, h1]; rfl
      rw [e9]
      exact a1
    · cases hs
  · cases hs
end ZSTEPH
