theorem zi_rkAll : zi_M.all (fun mi => decide (mi.2.2.2.2.2.1 ≠ 0)) = true := by decide +kernel
theorem zi_rk_pos {M : Nat} {as : List Value} {mi : zi_MI} (hM : zi_M[M]? = some mi) : zi_rk M as ≠ 0 := by
  unfold zi_rk
  split
  · omega
  · rw [hM]
    exact of_decide_eq_true (List.all_eq_true.mp zi_rkAll mi (List.mem_of_getElem? hM))
def zi_retOk (i : Instr) (rt : Option FieldType) (v : Option Value) (st : List Value) : Prop :=
  (i = .ireturn ∧ ∃ x, v = some (.int x) ∧ st = [.int x] ∧ (rt = some .int ∨ (rt = some .boolean ∧ (x = 0 ∨ x = 1)))) ∨ (i = .lreturn ∧ rt = some .long ∧ ∃ x, v = some (.long x) ∧ st = [.long x]) ∨ (i = .return_ ∧ rt = none ∧ v = none ∧ st = [])
theorem zi_inl_of {pc : Nat} {off : Int} {ls st : List Value} {h : zi_Hp} {x : zi_Nx} (e : zi_to pc off ls st h = some x) : ∃ c2, x = .inl c2 := by
  obtain ⟨t, -, rfl⟩ := zi_to_eq e
  exact ⟨_, rfl⟩
set_option maxHeartbeats 4000000 in
theorem zi_st_ret {cc : ByteArray} {own : Nat} {ini : Bool} {rt : Option FieldType} {pc : Nat} {i : Instr} {len r1 r2 r3 pi : Nat} {z : Int} {ls st : List Value} {h : zi_Hp} {r : zi_Rt} (hok : zi_okI cc own ini rt (pc, i, len, r1, r2, r3, pi, z) = true) (hs : zi_st (i, len, r1, r2, r3, pi, z) pc ls st h = some (.inr (.inl r))) : len = 1 ∧ r.2 = h ∧ zi_retOk i rt r.1 st := by
  have hln := (zi_okI_dec hok).2
  unfold zi_okI at hok
  simp only [Bool.and_eq_true] at hok
  have hq := hok.2
  clear hok
  cases i with
  | ireturn =>
    have hl : len = 1 := of_decide_eq_true hln
    dsimp only [zi_st] at hs
    split at hs
    · rename_i x
      split at hs
      · rename_i hc
        cases hs
        refine ⟨hl, rfl, Or.inl ⟨rfl, x, rfl, rfl, ?_⟩⟩
        dsimp only at hq
        split at hq
        · exact Or.inl (of_decide_eq_true hq)
        · rcases hc with hc | hc
          · omega
          · exact Or.inr ⟨of_decide_eq_true hq, hc⟩
        · cases hq
      · cases hs
    · cases hs
  | lreturn =>
    have hl : len = 1 := of_decide_eq_true hln
    dsimp only [zi_st] at hs
    split at hs
    · rename_i x
      cases hs
      exact ⟨hl, rfl, Or.inr (Or.inl ⟨rfl, of_decide_eq_true hq, x, rfl, rfl⟩)⟩
    · cases hs
  | return_ =>
    have hl : len = 1 := of_decide_eq_true hln
    dsimp only [zi_st] at hs
    split at hs
    · cases hs
      exact ⟨hl, rfl, Or.inr (Or.inr ⟨rfl, of_decide_eq_true hq, rfl, rfl⟩)⟩
    · cases hs
  | _ =>
    clear hq hln
    dsimp only [zi_st] at hs
    repeat' split at hs
    all_goals first
      | (cases hs; done)
      | (obtain ⟨c9, e9⟩ := zi_inl_of hs; cases e9)
      | (rcases zi_br_some hs with q | q <;> first | (cases q; done) | (obtain ⟨c9, e9⟩ := zi_inl_of q; cases e9))
set_option maxHeartbeats 4000000 in
theorem zi_st_call {pc : Nat} {i : Instr} {len r1 r2 r3 pi : Nat} {z : Int} {ls st : List Value} {h : zi_Hp} {M2 : Nat} {as : List Value} {c2 : zi_Cf} (hs : zi_st (i, len, r1, r2, r3, pi, z) pc ls st h = some (.inr (.inr (M2, as, c2)))) :
    M2 = r1 ∧ c2 = (pc + 3, ls, st.drop z.toNat, h) ∧ as = (st.take z.toNat).reverse ∧ z.toNat ≤ st.length ∧ zi_cs (st.drop z.toNat) ≤ 8 ∧
    ((∃ ix a q, i = .invokevirtual ix ∧ r2 = 0 ∧ as = .ref a :: q ∧ a < zh_n h ∧ (zh_k h a).1 = r3) ∨ (∃ ix, i = .invokestatic ix ∧ (r2 = 1 ∨ r2 = 5)) ∨ (∃ ix a q, i = .invokespecial ix ∧ (r2 = 2 ∨ r2 = 4) ∧ as = .ref a :: q)) := by
  cases i with
  | invokevirtual ix =>
    dsimp only [zi_st] at hs
    split at hs
    · rename_i hc
      split at hs
      · rename_i a q he
        split at hs
        · rename_i hk
          cases hs
          exact ⟨rfl, rfl, he.symm, hc.2.1, hc.2.2, Or.inl ⟨ix, a, q, rfl, hc.1, rfl, hk.1, hk.2⟩⟩
        · cases hs
      · cases hs
    · repeat' split at hs
      all_goals cases hs
  | invokestatic ix =>
    dsimp only [zi_st] at hs
    split at hs
    · rename_i hc
      cases hs
      exact ⟨rfl, rfl, rfl, hc.2.1, hc.2.2, Or.inr (Or.inl ⟨ix, rfl, hc.1⟩)⟩
    · repeat' split at hs
      all_goals cases hs
  | invokespecial ix =>
    dsimp only [zi_st] at hs
    split at hs
    · repeat' split at hs
      all_goals cases hs
    · split at hs
      · rename_i hc
        split at hs
        · rename_i a q he
          cases hs
          exact ⟨rfl, rfl, he.symm, hc.2.1, hc.2.2, Or.inr (Or.inr ⟨ix, a, q, rfl, hc.1, rfl⟩)⟩
        · cases hs
      · cases hs
  | _ =>
    dsimp only [zi_st] at hs
    repeat' split at hs
    all_goals first
      | (cases hs; done)
      | (obtain ⟨c9, e9⟩ := zi_inl_of hs; cases e9)
      | (rcases zi_br_some hs with q | q <;> first | (cases q; done) | (obtain ⟨c9, e9⟩ := zi_inl_of q; cases e9))
/-- a run of n steps of the reading machine is a run of the machine -/
def zi_S (n : Nat) : Prop := ∀ (p : Program) (l : Launch) (e : Env) (R : Room) (s : State) (m : MethodId) (args : Array Value) (below : List Frame) (meth : Method) (c : Code) (Q : State → Prop) (D : va_G) (dA : Nat → ClassId) (b : Nat → Nat) (L : Nat) (xs : Nat → Int32) (H0 : Heap) (n0 s0 k M : Nat) (mi : zi_MI) (vF : Option Value) (hF : zi_Hp),
  zi_M[M]? = some mi → zi_Cx p R s m args meth c D dA b L xs H0 mi.2.1 mi.2.2.1 mi.2.2.2.2.1 (decide (mi.1.name = "<init>")) → k + 4 ≤ R.frames → 64 * (k + 4) ≤ R.locals → zh_n hF ≤ n0 + R.cells → zh_s hF ≤ s0 + R.slots →
  (∀ (pc : Nat) (i : Instr) (st : List Value), decode mi.2.1 pc = .ok (i, 1) → zi_retOk i mi.2.2.2.1 vF st → ∀ (H : Heap) (als : Array Slot) (locs : List Loc) (cells slots : Nat), zi_Rl D dA b L xs H0 hF H → (∀ q ∈ locs, H0.size ≤ q.base) → n0 + cells = zh_n hF → s0 + slots = zh_s hF → W p l e R s m args below meth c H locs cells slots Q (F0 m pc als (st.map (zr H0.size b)))) →
  ∀ cf : zi_Cf, zi_go n k M cf = some (vF, hF) → zi_At p l e R s m args below meth c Q D dA b L xs H0 mi.2.2.1 n0 s0 cf
set_option maxHeartbeats 4000000 in
theorem zi_met {n : Nat} (hS : zi_S n) (l : Launch) {D : va_G} {dA : Nat → ClassId} {b : Nat → Nat} {L : Nat} {xs : Nat → Int32} {H0 : Heap} {k M : Nat} {mi : zi_MI} {as : List Value} {h h2 : zi_Hp} {v : Option Value} (hM : zi_M[M]? = some mi) (hkd : mi.2.2.2.2.2.2.2.1 ≠ 3) (hb : b 0 < H0.size) (hk : 1 ≤ k) (hfit : zi_fit M as = true) (hgo : zi_go n k M (0, zi_en M as, [], h) = some (v, h2)) :
    Met l mi.1 (Cond.code mi.1 mi.2.1 mi.2.2.1 mi.2.2.2.1 :: zi_gt) (zi_rm k (zh_n h2 - zh_n h) (zh_s h2 - zh_s h)) (zi_Pc D dA b L xs H0 as h) (zi_Qc D dA b L xs H0 v h2) (zh_n h2 - zh_n h) (zh_s h2 - zh_s h) (fun q => H0.size ≤ q) := by
  obtain ⟨c1, c2, c3, c4, c5, c6, c7, -, -, -⟩ := zi_callee hM hkd
  have hmo := zi_go_mono _ _ _ _ _ hgo
  have hm1 : zh_n h ≤ zh_n h2 := hmo.1
  have hm2 : zh_s h ≤ zh_s h2 := hmo.2
  refine Met.ofW (cc := mi.2.1) (maxL := mi.2.2.1) (ret := mi.2.2.2.1) c5 rfl ?_
  intro p e s m args below meth c s₁ B hml hv
  obtain ⟨hargs, hRl, hK⟩ := hv
  subst hargs
  have hts := atoms_spec (ws := Cond.code mi.1 mi.2.1 mi.2.2.1 mi.2.2.2.1 :: zi_gt) B.pre
  have hown : s.vm.findClass mi.1.cls = some m.cls := findClass_of_methodNamed B.named
  have hr := B.returns
  have hbb := B.bytes
  have hx := B.exec
  have hlocks := B.notSynchronized
  rw [lg_entry_eq]
  unfold zi_fit at hfit
  rw [hM] at hfit
  have hfit : (zi_ex as).length ≤ mi.2.2.1 := of_decide_eq_true hfit
  have hen : zi_en M as = zi_ex as ++ List.replicate (mi.2.2.1 - (zi_ex as).length) (.double 0) := by unfold zi_en; rw [hM]
  rw [hen] at hgo
  refine hS p l e (zi_rm k (zh_n h2 - zh_n h) (zh_s h2 - zh_s h)) s m _ below meth c _ D dA b L xs H0 (zh_n h) (zh_s h) k M mi v h2 hM ⟨hx, hbb, hml, by rw [c1]; exact hown, fun w hw => hts w (List.mem_cons_of_mem _ hw), hK, fun hi => ((name_of_methodNamed B.named B.method).1).trans (of_decide_eq_true hi), by show 5 ≤ k + 4; omega, by show 320 ≤ 64 * (k + 4); omega, hb⟩ (Nat.le_refl (k + 4)) (Nat.le_refl _) (by show zh_n h2 ≤ zh_n h + (zh_n h2 - zh_n h); omega) (by show zh_s h2 ≤ zh_s h + (zh_s h2 - zh_s h); omega) ?_ _ hgo s.heap _ [] 0 0 hRl (zi_LR.entry hfit) (fun _ h => by cases h) rfl rfl
  intro pc i st hd hro H als locs cells slots hRl2 hlo hn hsl
  have e1 : cells = zh_n h2 - zh_n h := by omega
  have e2 : slots = zh_s h2 - zh_s h := by omega
  subst e1
  subst e2
  rcases hro with ⟨rfl, x, rfl, rfl, hrt | ⟨hrt, hx1⟩⟩ | ⟨rfl, hrt, x, rfl, rfl⟩ | ⟨rfl, hrt, rfl, rfl⟩
  · exact W.iret (v := x) hx hbb (hr.trans hrt) (fun t ht _ => ⟨rfl, by rw [ht]; exact hRl2⟩) hlo hd hlocks
  · exact W.zret (v := x) (ty := .boolean) hx hbb (hr.trans hrt) (by rcases hx1 with rfl | rfl <;> rfl) (fun t ht _ => ⟨rfl, by rw [ht]; exact hRl2⟩) hlo hd hlocks
  · exact W.lret (v := x) hx hbb (hr.trans hrt) (fun t ht _ => ⟨rfl, by rw [ht]; exact hRl2⟩) hlo hd hlocks
  · exact W.vret hx hbb (hr.trans hrt) (fun t ht _ => ⟨rfl, by rw [ht]; exact hRl2⟩) hlo hd hlocks
theorem zi_stk {B : Nat} {b : Nat → Nat} {st q : List Value} {n a : Nat} (h : (st.take n).reverse = .ref a :: q) : st.map (zr B b) = (q.map (zr B b)).reverse ++ .ref (B + a) :: (st.drop n).map (zr B b) := by
  have h1 : st.take n = q.reverse ++ [.ref a] := by
    have := congrArg List.reverse h
    rw [List.reverse_reverse, List.reverse_cons] at this
    exact this
  have h2 : st = (q.reverse ++ [.ref a]) ++ st.drop n := by rw [← h1, List.take_append_drop]
  have h3 : st.map (zr B b) = ((q.reverse ++ [Value.ref a]) ++ st.drop n).map (zr B b) := congrArg (List.map (zr B b)) h2
  rw [h3]
  simp only [List.map_append, List.map_cons, List.map_nil, List.map_reverse, List.append_assoc, List.cons_append, List.nil_append]
  rfl
theorem zi_stkS {B : Nat} {b : Nat → Nat} {st : List Value} {n : Nat} : st.map (zr B b) = (((st.take n).reverse).map (zr B b)).reverse ++ (st.drop n).map (zr B b) := by
  rw [List.map_reverse, List.reverse_reverse, ← List.map_append, List.take_append_drop]
theorem zi_push {B : Nat} {b : Nat → Nat} (v : Option Value) (r : List Value) : (v.map (zr B b)).toList ++ r.map (zr B b) = (v.toList ++ r).map (zr B b) := by cases v <;> rfl
set_option maxHeartbeats 4000000 in
/-- THE READING MACHINE IS TRUE TO THE MACHINE -/
theorem zi_sound : ∀ n, zi_S n := by
  intro n
  induction n with
  | zero =>
    intro p l e R s m args below meth c Q D dA b L xs H0 n0 s0 k M mi vF hF _ _ _ _ _ _ _ cf hgo
    cases hgo
  | succ n ih =>
    intro p l e R s m args below meth c Q D dA b L xs H0 n0 s0 k M mi vF hF hM hC hkf hkl hcb hsb hfin cf hgo
    obtain ⟨pc, ls, st, h⟩ := cf
    rw [zi_go_s] at hgo
    dsimp only at hgo
    cases hf : zi_fe M pc with
    | none => rw [hf] at hgo; cases hgo
    | some I =>
      rw [hf] at hgo
      dsimp only at hgo
      have hok := zi_fe_ok hM hf
      obtain ⟨i, len, r1, r2, r3, pi, z⟩ := I
      cases hs : zi_st (i, len, r1, r2, r3, pi, z) pc ls st h with
      | none => rw [hs] at hgo; cases hgo
      | some x =>
        rw [hs] at hgo
        rcases x with c2 | r | ⟨M2, as, c2⟩
        · have hmo := zi_go_mono _ _ _ _ _ hgo
          exact zi_step hC hok hs (Nat.le_trans hmo.1 hcb) (Nat.le_trans hmo.2 hsb) (ih p l e R s m args below meth c Q D dA b L xs H0 n0 s0 k M mi vF hF hM hC hkf hkl hcb hsb hfin c2 hgo)
        · cases hgo
          obtain ⟨hl, hh, hro⟩ := zi_st_ret hok hs
          subst hl
          have hh : hF = h := hh
          subst hh
          intro H als locs cells slots hR hL hlo hn hsl
          exact hfin pc i st (zi_okI_dec hok).1 hro H als locs cells slots hR hlo hn hsl
        · dsimp only at hgo
          by_cases hr : zi_rk M2 as < k ∧ zi_fit M2 as = true
          · rw [if_pos hr] at hgo
            obtain ⟨e1, e2, e3, e4, e5, hcase⟩ := zi_st_call hs
            subst e2
            subst e1
            dsimp only at hgo
            cases hg : zi_go n (zi_rk M2 as) M2 (0, zi_en M2 as, [], h) with
            | none => rw [hg] at hgo; cases hgo
            | some q =>
              rw [hg] at hgo
              obtain ⟨v, h2⟩ := q
              dsimp only at hgo
              have kk := ih p l e R s m args below meth c Q D dA b L xs H0 n0 s0 k M mi vF hF hM hC hkf hkl hcb hsb hfin _ hgo
              have hm1 := zi_go_mono _ _ _ _ _ hg
              have hm2 := zi_go_mono _ _ _ _ _ hgo
              have m1 : zh_n h ≤ zh_n h2 := hm1.1
              have m2 : zh_s h ≤ zh_s h2 := hm1.2
              have m3 : zh_n h2 ≤ zh_n hF := hm2.1
              have m4 : zh_s h2 ≤ zh_s hF := hm2.2
              obtain ⟨hx, hb, hml, hown, hts, hK, hini, hfr, hlc, hbl⟩ := hC
              obtain ⟨hd, hln⟩ := zi_okI_dec hok
              unfold zi_okI at hok
              simp only [Bool.and_eq_true] at hok
              have hq := hok.2
              clear hok
              intro H als locs cells slots hR hL hlo hn hsl
              replace hR : zi_Rl D dA b L xs H0 h H := hR
              replace hL : zi_LR H0.size b mi.2.2.1 als ls := hL
              replace hn : n0 + cells = zh_n h := hn
              replace hsl : s0 + slots = zh_s h := hsl
              have hlen : as.length = z.toNat := by rw [e3, List.length_reverse, List.length_take]; omega
              have fin : ∀ {own C : String} {Qa : State → Outcome → State → Prop}, va_Run p l e R s m args below meth c H locs cells slots (zh_n h2 - zh_n h) (zh_s h2 - zh_s h) (F0 m pc als (st.map (zr H0.size b))) ((st.drop z.toNat).map (zr H0.size b)) (zi_Qc D dA b L xs H0 v h2 (as.map (zr H0.size b)).toArray) (fun q => H0.size ≤ q) → W p l e R s m args below meth c H locs cells slots Q (F0 m pc als (st.map (zr H0.size b))) := by
                intro own C Qa hrun
                refine zi_cont hrun fun v0 st0 t Lc hLc hq0 => ?_
                obtain ⟨hv0, hRl2⟩ := hq0
                have hv0 : v0 = v.map (zr H0.size b) := by cases hv0; rfl
                subst hv0
                rw [zi_push]
                refine kk t.heap als (locs ++ Lc) _ _ hRl2 hL (fun q hq9 => ?_) (by show n0 + (cells + (zh_n h2 - zh_n h)) = zh_n h2; omega) (by show s0 + (slots + (zh_s h2 - zh_s h)) = zh_s h2; omega)
                rcases List.mem_append.mp hq9 with h8 | h8
                · exact hlo q h8
                · exact hLc q h8
              have hfr9 : zi_rk M2 as + 4 + 1 ≤ R.frames := by have := hr.1; omega
              have hlc9 : ∀ nL : Nat, nL ≤ 40 → 8 + (nL + 11) + 64 * (zi_rk M2 as + 4) ≤ R.locals := by
                have hz := hr.1
                clear hcb hsb
                revert hz
                generalize zi_rk M2 as = zz
                intro hz nL h40
                have h64 : 64 * (zz + 4) + 64 ≤ 64 * (k + 4) := by omega
                refine Nat.le_trans ?_ (Nat.le_trans h64 hkl)
                clear h64 hkl hkf hfr9
                generalize 64 * (zz + 4) = ww
                clear hfr hlc
                omega
              have hroom : cells + (zh_n h2 - zh_n h) ≤ R.cells ∧ slots + (zh_s h2 - zh_s h) ≤ R.slots := ⟨by omega, by omega⟩
              have hW8 := lv_room (m := m) (pc := pc) (ls := als) (rest := st.map (zr H0.size b)) (zi_cat4 H0.size b e5)
              have hsz : als.size = mi.2.2.1 := hL.1.1
              have hrk1 : ∀ {mi2 : zi_MI}, zi_M[M2]? = some mi2 → 1 ≤ zi_rk M2 as := by
                intro mi2 hM2
                rcases Nat.eq_zero_or_pos (zi_rk M2 as) with h0 | h0
                · exact absurd h0 (zi_rk_pos hM2)
                · exact h0
              rcases hcase with ⟨ix, a, q, rfl, hr2, has, ha, hak⟩ | ⟨ix, rfl, hr2⟩ | ⟨ix, a, q, rfl, hr2, has⟩
              · have hl : len = 3 := of_decide_eq_true hln
                subst hl
                simp only [Bool.or_eq_true, Bool.and_eq_true, decide_eq_true_eq] at hq
                obtain ⟨q1, q2⟩ : zi_cal M2 0 r3 z = true ∧ zi_wd pi (.methodLink (zi_own mi.2.2.2.2.1) ix (zi_yM M2)) = true := by
                  rcases hq with (q9 | q9) | q9
                  · have := q9.1; omega
                  · have := q9.1; omega
                  · exact ⟨q9.1.2, q9.2⟩
                obtain ⟨mi2, hM2, hk2, ho2, hna, hy⟩ := zi_cal_spec q1
                obtain ⟨c1, c2, c3, c4, c5, c6, c7, cv, -, -⟩ := zi_callee hM2 (by rw [hk2]; decide)
                obtain ⟨v1, v2, v3, v4⟩ := cv hk2
                rw [hy] at q2
                subst has
                have hMet := zi_met ih l (D := D) (dA := dA) (b := b) (L := L) (xs := xs) (H0 := H0) hM2 (by rw [hk2]; decide) hbl (hrk1 hM2) hr.2 hg
                obtain ⟨cell, g1, g2, g3, -⟩ := hR.obj ha (hak.trans ho2.symm) v4
                have hcls := (hK.1.1 _ _ (zi_vw _ v4)).2.1
                refine fin (own := "") (C := "") (Qa := fun _ _ _ => True) (va_runV (As := q.map (zr H0.size b)) (b := H0.size + a) (C := mi2.1.cls) ⟨hx, hb, hml, hown, hts⟩ hMet ⟨callB_of (q.length) hts (zi_goodIn c2) rfl rfl rfl (hts _ c3) (hts _ (zi_wd_gt q2 rfl)) ⟨c6, c7, ?_⟩ ⟨hfr9, hlc9 _ c4⟩, hts _ v1, hts _ v2⟩ ⟨zi_Pc_blind, ⟨cell, g1, by rw [g3]; rfl, ?_⟩, fun U hU hW => ⟨rfl, by rw [hU]; exact hR, hK.warm hW⟩⟩ rfl (by rw [List.length_map]) hsz (zi_stk e3.symm) hW8 hd hroom)
                · have hl9 : q.length + 1 = mi2.2.2.2.2.2.2.1 := by
                    have : (Value.ref a :: q).length = z.toNat := hlen
                    rw [List.length_cons] at this
                    omega
                  cases hpd : parseMethodDescriptor mi2.1.desc with
                  | none => rw [hpd] at v3; cases v3
                  | some d9 =>
                    rw [hpd] at v3
                    have v3 : d9.parameters.length + 1 = mi2.2.2.2.2.2.2.1 := Option.some.inj v3
                    show some d9.parameters.length = some q.length
                    congr 1
                    omega
                · rw [g2, ← c1]; exact hcls
              · have hl : len = 3 := of_decide_eq_true hln
                subst hl
                simp only [Bool.or_eq_true, Bool.and_eq_true, decide_eq_true_eq] at hq
                have hpd9 : ∀ {mi2 : zi_MI}, (mi2.2.2.2.2.2.2.1 : Int) = z → (parseMethodDescriptor mi2.1.desc).map (fun d => d.parameters.length) = some mi2.2.2.2.2.2.2.1 → (parseMethodDescriptor mi2.1.desc).map (fun d => d.parameters.length) = some as.length := by
                  intro mi2 h8 h9
                  rw [h9, hlen]
                  congr 1
                  omega
                rcases hr2 with hr2 | hr2
                · obtain ⟨q1, q2⟩ : zi_cal M2 1 r3 z = true ∧ zi_wd pi (.methodLink (zi_own mi.2.2.2.2.1) ix (zi_yM M2)) = true := by
                    rcases hq with (((q9 | q9) | q9) | q9) | q9
                    · omega
                    · exact ⟨q9.1.2, q9.2⟩
                    · omega
                    · omega
                    · omega
                  obtain ⟨mi2, hM2, hk2, ho2, hna, hy⟩ := zi_cal_spec q1
                  obtain ⟨c1, c2, c3, c4, c5, c6, c7, -, cs, -⟩ := zi_callee hM2 (by rw [hk2]; decide)
                  obtain ⟨v1, v2⟩ := cs hk2
                  rw [hy] at q2
                  have hMet := zi_met ih l (D := D) (dA := dA) (b := b) (L := L) (xs := xs) (H0 := H0) hM2 (by rw [hk2]; decide) hbl (hrk1 hM2) hr.2 hg
                  exact fin (own := "") (C := "") (Qa := fun _ _ _ => True) (va_runS (As := as.map (zr H0.size b)) ⟨hx, hb, hml, hown, hts⟩ hMet ⟨callB_of (as.length) hts (zi_goodIn c2) rfl rfl rfl (hts _ c3) (hts _ (zi_wd_gt q2 rfl)) ⟨c6, c7, hpd9 hna v2⟩ ⟨hfr9, hlc9 _ c4⟩, hts _ v1⟩ ⟨zi_Pc_blind, fun U hU hW => ⟨rfl, by rw [hU]; exact hR, hK.warm hW⟩⟩ rfl (by rw [List.length_map]) hsz (by rw [e3]; exact zi_stkS) hW8 hd hroom)
                · obtain ⟨q1, q2⟩ : zi_cal M2 1 r3 z = true ∧ zi_wd pi (.methodLinkNest (zi_own mi.2.2.2.2.1) ix (zi_yM M2) "LinkTree") = true := by
                    rcases hq with (((q9 | q9) | q9) | q9) | q9
                    · omega
                    · omega
                    · omega
                    · omega
                    · exact ⟨q9.1.2, q9.2⟩
                  obtain ⟨mi2, hM2, hk2, ho2, hna, hy⟩ := zi_cal_spec q1
                  obtain ⟨c1, c2, c3, c4, c5, c6, c7, -, cs, -⟩ := zi_callee hM2 (by rw [hk2]; decide)
                  obtain ⟨v1, v2⟩ := cs hk2
                  rw [hy] at q2
                  have hMet := zi_met ih l (D := D) (dA := dA) (b := b) (L := L) (xs := xs) (H0 := H0) hM2 (by rw [hk2]; decide) hbl (hrk1 hM2) hr.2 hg
                  exact fin (own := "") (C := "") (Qa := fun _ _ _ => True) (va_runSN (As := as.map (zr H0.size b)) ⟨hx, hb, hml, hown, hts⟩ hMet ⟨va_cnB (as.length) hts (zi_goodIn c2) rfl rfl rfl (hK.2.2.1 _ _ _ (zi_wd_mem q2)) (hts _ c3) ⟨c6, c7, hpd9 hna v2⟩ ⟨hfr9, hlc9 _ c4⟩, hts _ v1, trivial⟩ ⟨zi_Pc_blind, fun U hU hW => ⟨rfl, by rw [hU]; exact hR, hK.warm hW⟩⟩ rfl (by rw [List.length_map]) hsz (by rw [e3]; exact zi_stkS) hW8 hd hroom)
              · have hl : len = 3 := of_decide_eq_true hln
                subst hl
                simp only [Bool.or_eq_true, Bool.and_eq_true, decide_eq_true_eq] at hq
                subst has
                have hpd9 : ∀ {mi2 : zi_MI}, (mi2.2.2.2.2.2.2.1 : Int) = z → (parseMethodDescriptor mi2.1.desc).map (fun d => d.parameters.length + 1) = some mi2.2.2.2.2.2.2.1 → (parseMethodDescriptor mi2.1.desc).map (fun d => d.parameters.length) = some q.length := by
                  intro mi2 h8 h9
                  have hl9 : (Value.ref a :: q).length = z.toNat := hlen
                  rw [List.length_cons] at hl9
                  cases hpd : parseMethodDescriptor mi2.1.desc with
                  | none => rw [hpd] at h9; cases h9
                  | some d9 =>
                    rw [hpd] at h9
                    have h9 : d9.parameters.length + 1 = mi2.2.2.2.2.2.2.1 := Option.some.inj h9
                    show some d9.parameters.length = some q.length
                    congr 1
                    omega
                rcases hr2 with hr2 | hr2
                · obtain ⟨q1, q2⟩ : zi_cal M2 2 r3 z = true ∧ zi_wd pi (.methodLink (zi_own mi.2.2.2.2.1) ix (zi_yM M2)) = true := by
                    rcases hq with (q9 | q9) | q9
                    · omega
                    · exact ⟨q9.1.2, q9.2⟩
                    · omega
                  obtain ⟨mi2, hM2, hk2, ho2, hna, hy⟩ := zi_cal_spec q1
                  obtain ⟨c1, c2, c3, c4, c5, c6, c7, -, -, ci⟩ := zi_callee hM2 (by rw [hk2]; decide)
                  obtain ⟨v1, v2, v3, v4⟩ := ci hk2
                  rw [hy] at q2
                  have hMet := zi_met ih l (D := D) (dA := dA) (b := b) (L := L) (xs := xs) (H0 := H0) hM2 (by rw [hk2]; decide) hbl (hrk1 hM2) hr.2 hg
                  rw [v4] at hMet c2
                  exact fin (own := "") (C := "") (Qa := fun _ _ _ => True) (va_runI (As := q.map (zr H0.size b)) (b := H0.size + a) ⟨hx, hb, hml, hown, hts⟩ hMet ⟨callB_of (q.length) hts (zi_goodIn c2) rfl rfl rfl (hts _ c3) (hts _ (zi_wd_gt q2 rfl)) ⟨c6, c7, hpd9 hna v2⟩ ⟨hfr9, hlc9 _ c4⟩, v3, hts _ v1⟩ ⟨zi_Pc_blind, fun U hU hW => ⟨rfl, by rw [hU]; exact hR, hK.warm hW⟩⟩ rfl (by rw [List.length_map]) hsz (zi_stk e3.symm) hW8 hd hroom)
                · obtain ⟨q1, q2⟩ : zi_cal M2 2 r3 z = true ∧ zi_wd pi (.methodLinkNest (zi_own mi.2.2.2.2.1) ix (zi_yM M2) "LinkTree") = true := by
                    rcases hq with (q9 | q9) | q9
                    · omega
                    · omega
                    · exact ⟨q9.1.2, q9.2⟩
                  obtain ⟨mi2, hM2, hk2, ho2, hna, hy⟩ := zi_cal_spec q1
                  obtain ⟨c1, c2, c3, c4, c5, c6, c7, -, -, ci⟩ := zi_callee hM2 (by rw [hk2]; decide)
                  obtain ⟨v1, v2, v3, v4⟩ := ci hk2
                  rw [hy] at q2
                  have hMet := zi_met ih l (D := D) (dA := dA) (b := b) (L := L) (xs := xs) (H0 := H0) hM2 (by rw [hk2]; decide) hbl (hrk1 hM2) hr.2 hg
                  rw [v4] at hMet c2
                  exact fin (own := "") (C := "") (Qa := fun _ _ _ => True) (va_runIN (As := q.map (zr H0.size b)) (b := H0.size + a) ⟨hx, hb, hml, hown, hts⟩ hMet ⟨va_cnB (q.length) hts (zi_goodIn c2) rfl rfl rfl (hK.2.2.1 _ _ _ (zi_wd_mem q2)) (hts _ c3) ⟨c6, c7, hpd9 hna v2⟩ ⟨hfr9, hlc9 _ c4⟩, v3, hts _ v1⟩ ⟨zi_Pc_blind, fun U hU hW => ⟨rfl, by rw [hU]; exact hR, hK.warm hW⟩⟩ rfl (by rw [List.length_map]) hsz (zi_stk e3.symm) hW8 hd hroom)
          · rw [if_neg hr] at hgo; cases hgo
