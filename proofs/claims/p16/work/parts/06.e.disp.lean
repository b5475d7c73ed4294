theorem zi_okI_dec {cc : ByteArray} {own : Nat} {ini : Bool} {rt : Option FieldType} {pc : Nat} {i : Instr} {len r1 r2 r3 pi : Nat} {z : Int} (hok : zi_okI cc own ini rt (pc, i, len, r1, r2, r3, pi, z) = true) : decode cc pc = .ok (i, len) ∧ zi_ln i len = true := by
  unfold zi_okI at hok
  simp only [Bool.and_eq_true, decide_eq_true_eq] at hok
  exact ⟨hok.1.1, hok.1.2⟩
section ZDISP
variable {p : Program} {l : Launch} {e : Env} {R : Room} {s : State} {m : MethodId} {args : Array Value} {below : List Frame} {meth : Method} {c : Code} {Q : State → Prop}
variable {D : va_G} {dA : Nat → ClassId} {b : Nat → Nat} {L : Nat} {xs : Nat → Int32} {H0 : Heap} {cc : ByteArray} {nL own n0 s0 : Nat} {ini : Bool}
variable {pc : Nat} {ls st : List Value} {h : zi_Hp} {c2 : zi_Cf} {len r1 r2 r3 pi : Nat} {z : Int}
set_option maxHeartbeats 4000000 in
/-- ONE INSTRUCTION that goes on in its own frame -/
theorem zi_step {i : Instr} {rt : Option FieldType} (hC : zi_Cx p R s m args meth c D dA b L xs H0 cc nL own ini) (hok : zi_okI cc own ini rt (pc, i, len, r1, r2, r3, pi, z) = true) (hs : zi_st (i, len, r1, r2, r3, pi, z) pc ls st h = some (.inl c2)) (hcb : zh_n c2.2.2.2 ≤ n0 + R.cells) (hsb : zh_s c2.2.2.2 ≤ s0 + R.slots) (kk : zi_At p l e R s m args below meth c Q D dA b L xs H0 nL n0 s0 c2) : zi_At p l e R s m args below meth c Q D dA b L xs H0 nL n0 s0 (pc, ls, st, h) := by
  obtain ⟨hd, hln⟩ := zi_okI_dec hok
  unfold zi_okI at hok
  simp only [Bool.and_eq_true] at hok
  have hq := hok.2
  clear hok
  cases i with
  | aload_n n =>
    have hl : len = 1 := of_decide_eq_true hln
    subst hl
    exact zi_s_aload_n hC hd hs kk
  | aload n =>
    have hl : len = 2 := of_decide_eq_true hln
    subst hl
    exact zi_s_aload hC hd hs kk
  | iload_n n =>
    have hl : len = 1 := of_decide_eq_true hln
    subst hl
    exact zi_s_iload_n hC hd hs kk
  | iload n =>
    have hl : len = 2 := of_decide_eq_true hln
    subst hl
    exact zi_s_iload hC hd hs kk
  | lload_n n =>
    have hl : len = 1 := of_decide_eq_true hln
    subst hl
    exact zi_s_lload_n hC hd hs kk
  | lload n =>
    have hl : len = 2 := of_decide_eq_true hln
    subst hl
    exact zi_s_lload hC hd hs kk
  | istore_n n =>
    have hl : len = 1 := of_decide_eq_true hln
    subst hl
    exact zi_s_istore_n hC hd hs kk
  | istore n =>
    have hl : len = 2 := of_decide_eq_true hln
    subst hl
    exact zi_s_istore hC hd hs kk
  | lstore n =>
    have hl : len = 2 := of_decide_eq_true hln
    subst hl
    exact zi_s_lstore hC hd hs kk
  | astore_n n =>
    have hl : len = 1 := of_decide_eq_true hln
    subst hl
    exact zi_s_astore_n hC hd hs kk
  | astore n =>
    have hl : len = 2 := of_decide_eq_true hln
    subst hl
    exact zi_s_astore hC hd hs kk
  | iinc n d =>
    have hl : len = 3 := of_decide_eq_true hln
    subst hl
    exact zi_s_iinc hC hd hs kk
  | iconst n =>
    have hl : len = 1 := of_decide_eq_true hln
    subst hl
    exact zi_s_iconst hC hd hs kk
  | bipush n =>
    have hl : len = 2 := of_decide_eq_true hln
    subst hl
    exact zi_s_bipush hC hd hs kk
  | sipush n =>
    have hl : len = 3 := of_decide_eq_true hln
    subst hl
    exact zi_s_sipush hC hd hs kk
  | lconst n =>
    have hl : len = 1 := of_decide_eq_true hln
    subst hl
    exact zi_s_lconst hC hd hs kk
  | iadd =>
    have hl : len = 1 := of_decide_eq_true hln
    subst hl
    exact zi_s_iadd hC hd hs kk
  | isub =>
    have hl : len = 1 := of_decide_eq_true hln
    subst hl
    exact zi_s_isub hC hd hs kk
  | imul =>
    have hl : len = 1 := of_decide_eq_true hln
    subst hl
    exact zi_s_imul hC hd hs kk
  | idiv =>
    have hl : len = 1 := of_decide_eq_true hln
    subst hl
    exact zi_s_idiv hC hd hs kk
  | iand =>
    have hl : len = 1 := of_decide_eq_true hln
    subst hl
    exact zi_s_iand hC hd hs kk
  | ior =>
    have hl : len = 1 := of_decide_eq_true hln
    subst hl
    exact zi_s_ior hC hd hs kk
  | ishl =>
    have hl : len = 1 := of_decide_eq_true hln
    subst hl
    exact zi_s_ishl hC hd hs kk
  | ishr =>
    have hl : len = 1 := of_decide_eq_true hln
    subst hl
    exact zi_s_ishr hC hd hs kk
  | iushr =>
    have hl : len = 1 := of_decide_eq_true hln
    subst hl
    exact zi_s_iushr hC hd hs kk
  | i2l =>
    have hl : len = 1 := of_decide_eq_true hln
    subst hl
    exact zi_s_i2l hC hd hs kk
  | i2b =>
    have hl : len = 1 := of_decide_eq_true hln
    subst hl
    exact zi_s_i2b hC hd hs kk
  | i2s =>
    have hl : len = 1 := of_decide_eq_true hln
    subst hl
    exact zi_s_i2s hC hd hs kk
  | ladd =>
    have hl : len = 1 := of_decide_eq_true hln
    subst hl
    exact zi_s_ladd hC hd hs kk
  | lmul =>
    have hl : len = 1 := of_decide_eq_true hln
    subst hl
    exact zi_s_lmul hC hd hs kk
  | ldiv =>
    have hl : len = 1 := of_decide_eq_true hln
    subst hl
    exact zi_s_ldiv hC hd hs kk
  | lrem =>
    have hl : len = 1 := of_decide_eq_true hln
    subst hl
    exact zi_s_lrem hC hd hs kk
  | lcmp =>
    have hl : len = 1 := of_decide_eq_true hln
    subst hl
    exact zi_s_lcmp hC hd hs kk
  | dup =>
    have hl : len = 1 := of_decide_eq_true hln
    subst hl
    exact zi_s_dup hC hd hs kk
  | dup2 =>
    have hl : len = 1 := of_decide_eq_true hln
    subst hl
    exact zi_s_dup2 hC hd hs kk
  | pop =>
    have hl : len = 1 := of_decide_eq_true hln
    subst hl
    exact zi_s_pop hC hd hs kk
  | pop2 =>
    have hl : len = 1 := of_decide_eq_true hln
    subst hl
    exact zi_s_pop2 hC hd hs kk
  | ldc_w n =>
    have hl : len = 3 := of_decide_eq_true hln
    subst hl
    exact zi_s_ldc_w hC hd (zi_wd_gt hq rfl) hs kk
  | ldc2_w n =>
    have hl : len = 3 := of_decide_eq_true hln
    subst hl
    exact zi_s_ldc2_w hC hd (zi_wd_gt hq rfl) hs kk
  | ifCond cd off =>
    have hl : len = 3 := of_decide_eq_true hln
    subst hl
    exact zi_s_ifCond hC hd (of_decide_eq_true hq) hs kk
  | if_icmp cd off =>
    have hl : len = 3 := of_decide_eq_true hln
    subst hl
    exact zi_s_if_icmp hC hd (of_decide_eq_true hq) hs kk
  | goto off =>
    have hl : len = 3 := of_decide_eq_true hln
    subst hl
    exact zi_s_goto hC hd hs kk
  | tableswitch dflt lo hi offs => exact zi_s_tableswitch hC hd hs kk
  | getfield ix =>
    have hl : len = 3 := of_decide_eq_true hln
    subst hl
    simp only [Bool.and_eq_true, decide_eq_true_eq] at hq
    exact zi_s_getfield hC hd hq.1.1.1 hq.1.1.2 (zi_wd_gt hq.1.2 rfl) hq.2 hs hcb hsb kk
  | putfield ix =>
    have hl : len = 3 := of_decide_eq_true hln
    subst hl
    simp only [Bool.and_eq_true, Bool.or_eq_true, Bool.not_eq_true', decide_eq_true_eq] at hq
    exact zi_s_putfield hC hd hq.1.1.1.1 hq.1.1.1.2 (zi_wd_gt hq.1.1.2 rfl) hq.1.2 hq.2 hs hcb hsb kk
  | new ix =>
    have hl : len = 3 := of_decide_eq_true hln
    subst hl
    simp only [Bool.and_eq_true, decide_eq_true_eq] at hq
    exact zi_s_new hC hd hq.1.1.1 hq.1.1.2 (zi_wd_gt hq.1.2 rfl) (zi_wd_gt hq.2 rfl) hs hcb hsb kk
  | newarray t =>
    have hl : len = 2 := of_decide_eq_true hln
    subst hl
    simp only [Bool.and_eq_true, decide_eq_true_eq] at hq
    exact zi_s_newarray hC hd hq.1.1.1 hq.1.1.2 hq.1.2 (zi_wd_gt hq.2 rfl) hs hcb hsb kk
  | anewarray ix =>
    have hl : len = 3 := of_decide_eq_true hln
    subst hl
    dsimp only at hq
    split at hq
    · simp only [Bool.and_eq_true] at hq
      exact zi_s_anewarrayW hC hd rfl (zi_wd_gt hq.1 rfl) hs hcb hsb kk
    · simp only [Bool.and_eq_true] at hq
      exact zi_s_anewarrayC hC hd rfl (zi_wd_gt hq.1 rfl) hs hcb hsb kk
    · cases hq
  | multianewarray ix d =>
    have hl : len = 4 := of_decide_eq_true hln
    subst hl
    simp only [Bool.and_eq_true, decide_eq_true_eq] at hq
    obtain ⟨⟨⟨hd2, hq1⟩, hq2⟩, hq3⟩ := hq
    subst hd2
    exact zi_s_multianewarray hC hd (zi_wd_gt hq1 rfl) (zi_wd_gt hq2 rfl) hs hcb hsb kk
  | iaload =>
    have hl : len = 1 := of_decide_eq_true hln
    subst hl
    exact zi_s_iaload hC hd hs hcb hsb kk
  | baload =>
    have hl : len = 1 := of_decide_eq_true hln
    subst hl
    exact zi_s_baload hC hd hs hcb hsb kk
  | laload =>
    have hl : len = 1 := of_decide_eq_true hln
    subst hl
    exact zi_s_laload hC hd hs hcb hsb kk
  | aaload =>
    have hl : len = 1 := of_decide_eq_true hln
    subst hl
    exact zi_s_aaload hC hd hs hcb hsb kk
  | iastore =>
    have hl : len = 1 := of_decide_eq_true hln
    subst hl
    exact zi_s_iastore hC hd hs hcb hsb kk
  | bastore =>
    have hl : len = 1 := of_decide_eq_true hln
    subst hl
    exact zi_s_bastore hC hd hs hcb hsb kk
  | lastore =>
    have hl : len = 1 := of_decide_eq_true hln
    subst hl
    exact zi_s_lastore hC hd hs hcb hsb kk
  | aastore =>
    have hl : len = 1 := of_decide_eq_true hln
    subst hl
    exact zi_s_aastore hC hd hs hcb hsb kk
  | arraylength =>
    have hl : len = 1 := of_decide_eq_true hln
    subst hl
    exact zi_s_arraylength hC hd hs hcb hsb kk
  | ireturn =>
    dsimp only [zi_st] at hs
    repeat' split at hs
    all_goals cases hs
  | lreturn =>
    dsimp only [zi_st] at hs
    repeat' split at hs
    all_goals cases hs
  | return_ =>
    dsimp only [zi_st] at hs
    repeat' split at hs
    all_goals cases hs
  | ldc ix =>
    have hl : len = 2 := of_decide_eq_true hln
    subst hl
    simp only [Bool.and_eq_true, decide_eq_true_eq] at hq
    exact zi_s_ldc hC hd hq.1.1 hq.1.2 hs hcb hsb kk
  | invokevirtual ix =>
    have hl : len = 3 := of_decide_eq_true hln
    subst hl
    simp only [Bool.or_eq_true, Bool.and_eq_true, decide_eq_true_eq] at hq
    rcases hq with ((⟨q1, q2⟩ | ⟨q1, q2⟩) | ⟨⟨q1, -⟩, -⟩)
    · exact zi_s_slen hC hd q1 (zi_wd_gt q2 rfl) hs hcb hsb kk
    · exact zi_s_sch hC hd q1 (zi_wd_gt q2 rfl) hs hcb hsb kk
    · exfalso
      dsimp only [zi_st] at hs
      subst q1
      split at hs
      · repeat' split at hs
        all_goals cases hs
      · split at hs
        · exfalso; omega
        · exfalso; omega
        · cases hs
  | invokestatic ix =>
    have hl : len = 3 := of_decide_eq_true hln
    subst hl
    simp only [Bool.or_eq_true, Bool.and_eq_true, decide_eq_true_eq] at hq
    have hno : ∀ r2' : Nat, r2 = r2' → (r2' = 1 ∨ r2' = 5) → False := by
      intro r2' e1 e2
      subst e1
      dsimp only [zi_st] at hs
      split at hs
      · cases hs
      · split at hs
        · omega
        · omega
        · omega
        · cases hs
    rcases hq with ((((⟨q1, q2⟩ | ⟨⟨q1, -⟩, -⟩) | ⟨q1, q2⟩) | ⟨q1, q2⟩) | ⟨⟨q1, -⟩, -⟩)
    · exact zi_s_copy hC hd q1 (zi_wd_gt q2 rfl) hs hcb hsb kk
    · exact absurd (hno _ q1 (Or.inl rfl)) id
    · exact zi_s_max hC hd q1 (zi_wd_gt q2 rfl) hs hcb hsb kk
    · exact zi_s_min hC hd q1 (zi_wd_gt q2 rfl) hs hcb hsb kk
    · exact absurd (hno _ q1 (Or.inr rfl)) id
  | invokespecial ix =>
    have hl : len = 3 := of_decide_eq_true hln
    subst hl
    simp only [Bool.or_eq_true, Bool.and_eq_true, decide_eq_true_eq] at hq
    have hno : r2 ≠ 3 → False := by
      intro e1
      dsimp only [zi_st] at hs
      rw [if_neg e1] at hs
      repeat' split at hs
      all_goals cases hs
    rcases hq with ((⟨q1, q2⟩ | ⟨⟨q1, -⟩, -⟩) | ⟨⟨q1, -⟩, -⟩)
    · exact zi_s_objInit hC hd q1 (zi_wd_gt q2 rfl) hs hcb hsb kk
    · exact absurd (hno (by omega)) id
    · exact absurd (hno (by omega)) id
  | _ => cases hs
end ZDISP
/-- a contract of the reading machine's run -/
def zi_Pc (D : va_G) (dA : Nat → ClassId) (b : Nat → Nat) (L : Nat) (xs : Nat → Int32) (H0 : Heap) (as : List Value) (h : zi_Hp) : Array Value → State → Prop := fun a U => a = (as.map (zr H0.size b)).toArray ∧ zi_Rl D dA b L xs H0 h U.heap ∧ zi_K D dA b L xs H0 U
def zi_Qc (D : va_G) (dA : Nat → ClassId) (b : Nat → Nat) (L : Nat) (xs : Nat → Int32) (H0 : Heap) (v : Option Value) (h : zi_Hp) : Array Value → State → Outcome → State → Prop := fun _ _ o t => o = .returned (v.map (zr H0.size b)) ∧ zi_Rl D dA b L xs H0 h t.heap
def zi_rm (k mc ms : Nat) : Room := { frames := k + 4, cells := mc, slots := ms, locals := 64 * (k + 4) }
theorem zi_Pc_blind {D : va_G} {dA : Nat → ClassId} {b : Nat → Nat} {L : Nat} {xs : Nat → Int32} {H0 : Heap} {as : List Value} {h : zi_Hp} : FrameBlind (zi_Pc D dA b L xs H0 as h) := fun a U g mk q => ⟨q.1, q.2.1, q.2.2.same rfl⟩
section ZCALL
variable {p : Program} {l : Launch} {e : Env} {R : Room} {s : State} {m : MethodId} {args : Array Value} {below : List Frame} {meth : Method} {c : Code} {H : Heap} {locs : List Loc} {cells slots : Nat} {Q : State → Prop}
theorem zi_cont {mc ms : Nat} {g : JFrame} {rest : List Value} {Qa : State → Outcome → State → Prop} {free : Addr → Prop} (hr : va_Run p l e R s m args below meth c H locs cells slots mc ms g rest Qa free)
    (kk : ∀ (v : Option Value) (st₀ t : State) (Lc : List Loc), (∀ q ∈ Lc, free q.base) → Qa st₀ (.returned v) t → W p l e R s m args below meth c t.heap (locs ++ Lc) (cells + mc) (slots + ms) Q { g with pc := g.pc + 3, stack := v.toList ++ rest }) : W p l e R s m args below meth c H locs cells slots Q g := by
  intro T hT X
  obtain ⟨v, st₀, t, T', Lc, h0, X', hL, e1, e2, hq, st⟩ := hr T hT X
  obtain ⟨t2, a1, b1⟩ := kk v st₀ t Lc hL hq T' e1 X'
  exact ⟨t2, st t2 a1, b1⟩
end ZCALL
/-- the facts of a method of the list -/
theorem zi_mem {M : Nat} {mi : zi_MI} (hM : zi_M[M]? = some mi) : zi_okM mi = true := zi_okA mi (List.mem_of_getElem? hM)
theorem zi_lookup_mem {α : Type} : ∀ {is : List (Nat × α)} {pc : Nat} {I : α}, is.lookup pc = some I → (pc, I) ∈ is := by
  intro is
  induction is with
  | nil => intro pc I h; cases h
  | cons a r ih =>
    intro pc I h
    obtain ⟨q, J⟩ := a
    rw [List.lookup_cons] at h
    split at h
    · rename_i e
      cases h
      rw [eq_of_beq e]
      exact List.mem_cons_self
    · exact List.mem_cons_of_mem _ (ih h)
theorem zi_fe_ok {M pc : Nat} {mi : zi_MI} {I : zi_RI} (hM : zi_M[M]? = some mi) (hf : zi_fe M pc = some I) : zi_okI mi.2.1 mi.2.2.2.2.1 (decide (mi.1.name = "<init>")) mi.2.2.2.1 (pc, I) = true := by
  have h1 := zi_mem hM
  unfold zi_okM at h1
  simp only [Bool.and_eq_true] at h1
  unfold zi_fe at hf
  rw [hM] at hf
  exact List.all_eq_true.mp h1.1 _ (zi_lookup_mem hf)
theorem zi_cal_spec {i kd ow : Nat} {na : Int} (h : zi_cal i kd ow na = true) : ∃ mi, zi_M[i]? = some mi ∧ mi.2.2.2.2.2.2.2.1 = kd ∧ mi.2.2.2.2.1 = ow ∧ (mi.2.2.2.2.2.2.1 : Int) = na ∧ zi_yM i = mi.1 := by
  unfold zi_cal at h
  cases hM : zi_M[i]? with
  | none => rw [hM] at h; cases h
  | some mi =>
    rw [hM] at h
    simp only [Bool.and_eq_true, decide_eq_true_eq] at h
    exact ⟨mi, rfl, h.1.1, h.1.2, h.2, by unfold zi_yM; rw [hM]⟩
theorem zi_plain {o : Nat} (h : o < 13) (h11 : o ≠ 11) : plainName (zi_own o) = true ∧ zi_own o ≠ "java/lang/invoke/MethodHandle" ∧ zi_own o ≠ "java/lang/invoke/VarHandle" := by
  have h1 := zi_okC o h
  unfold zi_okCl at h1
  simp only [Bool.or_eq_true, Bool.and_eq_true, decide_eq_true_eq] at h1
  rcases h1 with h1 | ⟨⟨h2, h3⟩, h4⟩
  · exact absurd h1 h11
  · exact ⟨h2, h3, h4⟩
/-- what a method that can be called has in the tables -/
theorem zi_callee {M : Nat} {mi : zi_MI} (hM : zi_M[M]? = some mi) (hkd : mi.2.2.2.2.2.2.2.1 ≠ 3) : zi_own mi.2.2.2.2.1 = mi.1.cls ∧ Cond.code mi.1 mi.2.1 mi.2.2.1 mi.2.2.2.1 ∈ zi_gt ∧ Cond.initialized mi.1.cls ∈ zi_gt ∧ mi.2.2.1 ≤ 40 ∧ plainName mi.1.cls = true ∧ mi.1.cls ≠ "java/lang/invoke/MethodHandle" ∧ mi.1.cls ≠ "java/lang/invoke/VarHandle" ∧
    (mi.2.2.2.2.2.2.2.1 = 0 → Cond.instanceMethod mi.1 ∈ zi_gt ∧ Cond.selects mi.1.cls mi.1 mi.1 ∈ zi_gt ∧ (parseMethodDescriptor mi.1.desc).map (fun d => d.parameters.length + 1) = some mi.2.2.2.2.2.2.1 ∧ mi.2.2.2.2.1 < 9) ∧
    (mi.2.2.2.2.2.2.2.1 = 1 → Cond.static mi.1 ∈ zi_gt ∧ (parseMethodDescriptor mi.1.desc).map (fun d => d.parameters.length) = some mi.2.2.2.2.2.2.1) ∧
    (mi.2.2.2.2.2.2.2.1 = 2 → Cond.instanceMethod mi.1 ∈ zi_gt ∧ (parseMethodDescriptor mi.1.desc).map (fun d => d.parameters.length + 1) = some mi.2.2.2.2.2.2.1 ∧ mi.1.name = "<init>" ∧ mi.2.2.2.1 = none) := by
  have h1 := zi_mem hM
  unfold zi_okM at h1
  simp only [Bool.and_eq_true] at h1
  have hw := h1.2
  obtain ⟨y, code, maxL, rt, own, rk, na, kd, pC, pI, pS, pN, is⟩ := mi
  dsimp only at hkd ⊢
  unfold zi_okW at hw
  simp only [Bool.and_eq_true, Bool.or_eq_true, decide_eq_true_eq] at hw
  obtain ⟨⟨ho, ho2⟩, hk | ⟨⟨⟨⟨w1, w2⟩, w3⟩, w4⟩, w5⟩⟩ := hw
  · exact absurd hk hkd
  · obtain ⟨p1, p2, p3⟩ := zi_plain ho2 w4
    rw [ho] at p1 p2 p3
    refine ⟨ho, zi_wd_gt w1 rfl, zi_wd_gt w2 rfl, w3, p1, p2, p3, fun e => ?_, fun e => ?_, fun e => ?_⟩
    · subst e
      simp only [Bool.and_eq_true, decide_eq_true_eq] at w5
      exact ⟨zi_wd_gt w5.1.1.1 rfl, zi_wd_gt w5.1.1.2 rfl, w5.1.2, w5.2⟩
    · subst e
      simp only [Bool.and_eq_true, decide_eq_true_eq] at w5
      exact ⟨zi_wd_gt w5.1 rfl, w5.2⟩
    · subst e
      simp only [Bool.and_eq_true, decide_eq_true_eq] at w5
      exact ⟨zi_wd_gt w5.1.1.1 rfl, w5.1.1.2, w5.1.2, w5.2⟩
