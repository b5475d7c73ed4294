/-! THE JDK's OWN MEMBERS over the texts that the program names -/
def RJ0 : String := "java/lang/String"
def RJ1 : String := "java/lang/StringLatin1"
def RJ3 : String := "jdk/internal/util/Preconditions"
abbrev cJ0_length_8abf5 : ByteArray := prog_13_method_54_code
def yJ0_length_8abf5 : MethodName := ⟨RJ0, "length", "()I"⟩
theorem dJ0_length_8abf5_0 : decode cJ0_length_8abf5 0 = .ok (.aload_n 0, 1) := by decide +kernel
theorem dJ0_length_8abf5_1 : decode cJ0_length_8abf5 1 = .ok (.getfield 9, 3) := by decide +kernel
theorem dJ0_length_8abf5_4 : decode cJ0_length_8abf5 4 = .ok (.arraylength, 1) := by decide +kernel
theorem dJ0_length_8abf5_5 : decode cJ0_length_8abf5 5 = .ok (.aload_n 0, 1) := by decide +kernel
theorem dJ0_length_8abf5_6 : decode cJ0_length_8abf5 6 = .ok (.invokevirtual 335, 3) := by decide +kernel
theorem dJ0_length_8abf5_9 : decode cJ0_length_8abf5 9 = .ok (.ishr, 1) := by decide +kernel
theorem dJ0_length_8abf5_10 : decode cJ0_length_8abf5 10 = .ok (.ireturn, 1) := by decide +kernel
abbrev cJ0_charAt_5068e : ByteArray := prog_13_method_56_code
def yJ0_charAt_5068e : MethodName := ⟨RJ0, "charAt", "(I)C"⟩
theorem dJ0_charAt_5068e_0 : decode cJ0_charAt_5068e 0 = .ok (.aload_n 0, 1) := by decide +kernel
theorem dJ0_charAt_5068e_1 : decode cJ0_charAt_5068e 1 = .ok (.invokevirtual 492, 3) := by decide +kernel
theorem dJ0_charAt_5068e_4 : decode cJ0_charAt_5068e 4 = .ok (.ifCond .eq 12, 3) := by decide +kernel
theorem dJ0_charAt_5068e_7 : decode cJ0_charAt_5068e 7 = .ok (.aload_n 0, 1) := by decide +kernel
theorem dJ0_charAt_5068e_8 : decode cJ0_charAt_5068e 8 = .ok (.getfield 9, 3) := by decide +kernel
theorem dJ0_charAt_5068e_11 : decode cJ0_charAt_5068e 11 = .ok (.iload_n 1, 1) := by decide +kernel
theorem dJ0_charAt_5068e_12 : decode cJ0_charAt_5068e 12 = .ok (.invokestatic 495, 3) := by decide +kernel
theorem dJ0_charAt_5068e_15 : decode cJ0_charAt_5068e 15 = .ok (.ireturn, 1) := by decide +kernel
theorem dJ0_charAt_5068e_16 : decode cJ0_charAt_5068e 16 = .ok (.aload_n 0, 1) := by decide +kernel
theorem dJ0_charAt_5068e_17 : decode cJ0_charAt_5068e 17 = .ok (.getfield 9, 3) := by decide +kernel
theorem dJ0_charAt_5068e_20 : decode cJ0_charAt_5068e 20 = .ok (.iload_n 1, 1) := by decide +kernel
theorem dJ0_charAt_5068e_21 : decode cJ0_charAt_5068e 21 = .ok (.invokestatic 498, 3) := by decide +kernel
theorem dJ0_charAt_5068e_24 : decode cJ0_charAt_5068e 24 = .ok (.ireturn, 1) := by decide +kernel
abbrev cJ0_coder_7d493 : ByteArray := prog_13_method_152_code
def yJ0_coder_7d493 : MethodName := ⟨RJ0, "coder", "()B"⟩
theorem dJ0_coder_7d493_0 : decode cJ0_coder_7d493 0 = .ok (.getstatic 38, 3) := by decide +kernel
theorem dJ0_coder_7d493_3 : decode cJ0_coder_7d493 3 = .ok (.ifCond .eq 10, 3) := by decide +kernel
theorem dJ0_coder_7d493_6 : decode cJ0_coder_7d493 6 = .ok (.aload_n 0, 1) := by decide +kernel
theorem dJ0_coder_7d493_7 : decode cJ0_coder_7d493 7 = .ok (.getfield 15, 3) := by decide +kernel
theorem dJ0_coder_7d493_10 : decode cJ0_coder_7d493 10 = .ok (.goto 4, 3) := by decide +kernel
theorem dJ0_coder_7d493_13 : decode cJ0_coder_7d493 13 = .ok (.iconst 1, 1) := by decide +kernel
theorem dJ0_coder_7d493_14 : decode cJ0_coder_7d493 14 = .ok (.ireturn, 1) := by decide +kernel
abbrev cJ0_isLatin1_aae02 : ByteArray := prog_13_method_154_code
def yJ0_isLatin1_aae02 : MethodName := ⟨RJ0, "isLatin1", "()Z"⟩
theorem dJ0_isLatin1_aae02_0 : decode cJ0_isLatin1_aae02 0 = .ok (.getstatic 38, 3) := by decide +kernel
theorem dJ0_isLatin1_aae02_3 : decode cJ0_isLatin1_aae02 3 = .ok (.ifCond .eq 14, 3) := by decide +kernel
theorem dJ0_isLatin1_aae02_6 : decode cJ0_isLatin1_aae02 6 = .ok (.aload_n 0, 1) := by decide +kernel
theorem dJ0_isLatin1_aae02_7 : decode cJ0_isLatin1_aae02 7 = .ok (.getfield 15, 3) := by decide +kernel
theorem dJ0_isLatin1_aae02_10 : decode cJ0_isLatin1_aae02 10 = .ok (.ifCond .ne 7, 3) := by decide +kernel
theorem dJ0_isLatin1_aae02_13 : decode cJ0_isLatin1_aae02 13 = .ok (.iconst 1, 1) := by decide +kernel
theorem dJ0_isLatin1_aae02_14 : decode cJ0_isLatin1_aae02 14 = .ok (.goto 4, 3) := by decide +kernel
theorem dJ0_isLatin1_aae02_17 : decode cJ0_isLatin1_aae02 17 = .ok (.iconst 0, 1) := by decide +kernel
theorem dJ0_isLatin1_aae02_18 : decode cJ0_isLatin1_aae02 18 = .ok (.ireturn, 1) := by decide +kernel
abbrev cJ0_checkIndex_df160 : ByteArray := prog_13_method_155_code
def yJ0_checkIndex_df160 : MethodName := ⟨RJ0, "checkIndex", "(II)V"⟩
theorem dJ0_checkIndex_df160_0 : decode cJ0_checkIndex_df160 0 = .ok (.iload_n 0, 1) := by decide +kernel
theorem dJ0_checkIndex_df160_1 : decode cJ0_checkIndex_df160 1 = .ok (.iload_n 1, 1) := by decide +kernel
theorem dJ0_checkIndex_df160_2 : decode cJ0_checkIndex_df160 2 = .ok (.getstatic 1053, 3) := by decide +kernel
theorem dJ0_checkIndex_df160_5 : decode cJ0_checkIndex_df160 5 = .ok (.invokestatic 1059, 3) := by decide +kernel
theorem dJ0_checkIndex_df160_8 : decode cJ0_checkIndex_df160 8 = .ok (.pop, 1) := by decide +kernel
theorem dJ0_checkIndex_df160_9 : decode cJ0_checkIndex_df160 9 = .ok (.return_, 1) := by decide +kernel
abbrev cJ1_charAt_3b067 : ByteArray := prog_14_method_2_code
def yJ1_charAt_3b067 : MethodName := ⟨RJ1, "charAt", "([BI)C"⟩
theorem dJ1_charAt_3b067_0 : decode cJ1_charAt_3b067 0 = .ok (.iload_n 1, 1) := by decide +kernel
theorem dJ1_charAt_3b067_1 : decode cJ1_charAt_3b067 1 = .ok (.aload_n 0, 1) := by decide +kernel
theorem dJ1_charAt_3b067_2 : decode cJ1_charAt_3b067 2 = .ok (.arraylength, 1) := by decide +kernel
theorem dJ1_charAt_3b067_3 : decode cJ1_charAt_3b067 3 = .ok (.invokestatic 9, 3) := by decide +kernel
theorem dJ1_charAt_3b067_6 : decode cJ1_charAt_3b067 6 = .ok (.aload_n 0, 1) := by decide +kernel
theorem dJ1_charAt_3b067_7 : decode cJ1_charAt_3b067 7 = .ok (.iload_n 1, 1) := by decide +kernel
theorem dJ1_charAt_3b067_8 : decode cJ1_charAt_3b067 8 = .ok (.baload, 1) := by decide +kernel
theorem dJ1_charAt_3b067_9 : decode cJ1_charAt_3b067 9 = .ok (.sipush 255, 3) := by decide +kernel
theorem dJ1_charAt_3b067_12 : decode cJ1_charAt_3b067 12 = .ok (.iand, 1) := by decide +kernel
theorem dJ1_charAt_3b067_13 : decode cJ1_charAt_3b067 13 = .ok (.i2c, 1) := by decide +kernel
theorem dJ1_charAt_3b067_14 : decode cJ1_charAt_3b067 14 = .ok (.ireturn, 1) := by decide +kernel
abbrev cJ3_checkIndex_8e157 : ByteArray := prog_18_method_11_code
def yJ3_checkIndex_8e157 : MethodName := ⟨RJ3, "checkIndex", "(IILjava/util/function/BiFunction;)I"⟩
theorem dJ3_checkIndex_8e157_0 : decode cJ3_checkIndex_8e157 0 = .ok (.iload_n 0, 1) := by decide +kernel
theorem dJ3_checkIndex_8e157_1 : decode cJ3_checkIndex_8e157 1 = .ok (.ifCond .lt 8, 3) := by decide +kernel
theorem dJ3_checkIndex_8e157_4 : decode cJ3_checkIndex_8e157 4 = .ok (.iload_n 0, 1) := by decide +kernel
theorem dJ3_checkIndex_8e157_5 : decode cJ3_checkIndex_8e157 5 = .ok (.iload_n 1, 1) := by decide +kernel
theorem dJ3_checkIndex_8e157_6 : decode cJ3_checkIndex_8e157 6 = .ok (.if_icmp .lt 10, 3) := by decide +kernel
theorem dJ3_checkIndex_8e157_9 : decode cJ3_checkIndex_8e157 9 = .ok (.aload_n 2, 1) := by decide +kernel
theorem dJ3_checkIndex_8e157_10 : decode cJ3_checkIndex_8e157 10 = .ok (.iload_n 0, 1) := by decide +kernel
theorem dJ3_checkIndex_8e157_11 : decode cJ3_checkIndex_8e157 11 = .ok (.iload_n 1, 1) := by decide +kernel
theorem dJ3_checkIndex_8e157_12 : decode cJ3_checkIndex_8e157 12 = .ok (.invokestatic 95, 3) := by decide +kernel
theorem dJ3_checkIndex_8e157_15 : decode cJ3_checkIndex_8e157 15 = .ok (.athrow, 1) := by decide +kernel
theorem dJ3_checkIndex_8e157_16 : decode cJ3_checkIndex_8e157 16 = .ok (.iload_n 0, 1) := by decide +kernel
theorem dJ3_checkIndex_8e157_17 : decode cJ3_checkIndex_8e157 17 = .ok (.ireturn, 1) := by decide +kernel
def zj_N : Nat → Prop := fun _ => False
/-- a text: its object, its bytes, and the statics that are read on the way -/
def zj_F (ak av len : Nat) (f : Nat → Int32) (U : State) : Prop :=
  va_O "java/lang/String" ak zj_N U U.heap ∧ va_OF "java/lang/String" "coder" "B" (.int 0) ak zj_N U U.heap ∧ va_OF "java/lang/String" "value" "[B" (.ref av) ak zj_N U U.heap ∧ va_T .byte av len (fun j => .int (f j)) zj_N U U.heap ∧ va_Z "java/lang/String" "COMPACT_STRINGS" "Z" (.int 1) zj_N U U.heap ∧ va_Zq "jdk/internal/util/Preconditions" "SIOOBE_FORMATTER" "Ljava/util/function/BiFunction;" zj_N U U.heap
theorem zj_F.moved {ak av len : Nat} {f : Nat → Int32} {s U : State} (hH : U.heap = s.heap) (ha : s.vm.Alike U.vm) (h : zj_F ak av len f s) : zj_F ak av len f U := by
  obtain ⟨h1, h2, h3, h4, h5, h6⟩ := h
  unfold zj_F
  rw [hH]
  exact ⟨h1.moved ha, h2.moved ha, h3.moved ha, h4.moved ha, h5.moved ha, h6.moved ha⟩
def zj_P (As : List Value) (F : State → Prop) : Array Value → State → Prop := fun a U => a = As.toArray ∧ F U
def zj_Q (v : Option Value) : Array Value → State → Outcome → State → Prop := fun _ st o t => o = .returned v ∧ t.heap = st.heap
def zj_rm (k : Nat) : Room := { frames := k, cells := 0, slots := 0, locals := 64 * k }
theorem zj_S {H : Heap} : va_S zj_N H H [] := ⟨Nat.le_refl _, fun _ _ _ => rfl, fun _ h => by cases h⟩
theorem zj_blind {As : List Value} {ak av len : Nat} {f : Nat → Int32} : FrameBlind (zj_P As (zj_F ak av len f)) := fun a U g mk q => ⟨q.1, zj_F.moved rfl (Vm.Alike.refl _) q.2⟩
theorem zj_blindT {As : List Value} : FrameBlind (zj_P As (fun _ => True)) := fun a U g mk q => ⟨q.1, trivial⟩
section ZJC
variable {p : Program} {l : Launch} {e : Env} {R : Room} {s : State} {m : MethodId} {args : Array Value} {below : List Frame} {meth : Method} {c : Code} {H : Heap} {locs : List Loc} {cells slots : Nat} {Q : State → Prop}
theorem zj_cont {g : JFrame} {rest : List Value} {v0 : Option Value} {Aa : Array Value} (hr : va_Run p l e R s m args below meth c H locs cells slots 0 0 g rest (zj_Q v0 Aa) (fun _ => False))
    (kk : W p l e R s m args below meth c H locs cells slots Q { g with pc := g.pc + 3, stack := v0.toList ++ rest }) : W p l e R s m args below meth c H locs cells slots Q g := by
  intro T hT X
  obtain ⟨v, st₀, t, T', Lc, h0, X', hL, e1, e2, hq, st⟩ := hr T hT X
  obtain ⟨hq1, hq2⟩ := hq
  cases hq1
  have hLc : Lc = [] := List.eq_nil_iff_forall_not_mem.mpr (fun q hq => hL q hq)
  subst hLc
  rw [List.append_nil] at X'
  obtain ⟨t2, a1, b1⟩ := kk T' (e1.trans (hq2.trans h0)) X'
  exact ⟨t2, st t2 a1, b1⟩
end ZJC
theorem zj_w1 : Cond.fieldLink RJ0 38 "java/lang/String" "COMPACT_STRINGS" "Z" ∈ zi_gt := by decide +kernel
theorem zj_w2 : Cond.fieldLink RJ0 15 "java/lang/String" "coder" "B" ∈ zi_gt := by decide +kernel
theorem zj_w3 : Cond.fieldLink RJ0 9 "java/lang/String" "value" "[B" ∈ zi_gt := by decide +kernel
theorem zj_w4 : Cond.methodLink RJ0 335 yJ0_coder_7d493 ∈ zi_gt := by decide +kernel
theorem zj_w5 : Cond.instanceMethod yJ0_coder_7d493 ∈ zi_gt := by decide +kernel
theorem zj_w6 : Cond.selects "java/lang/String" yJ0_coder_7d493 yJ0_coder_7d493 ∈ zi_gt := by decide +kernel
theorem zj_w7 : Cond.initialized "java/lang/String" ∈ zi_gt := by decide +kernel
theorem zj_w8 : Cond.code yJ0_coder_7d493 cJ0_coder_7d493 1 (some .byte) ∈ zi_gt := by decide +kernel
theorem zj_w9 : Cond.methodLink RJ0 492 yJ0_isLatin1_aae02 ∈ zi_gt := by decide +kernel
theorem zj_w10 : Cond.instanceMethod yJ0_isLatin1_aae02 ∈ zi_gt := by decide +kernel
theorem zj_w11 : Cond.selects "java/lang/String" yJ0_isLatin1_aae02 yJ0_isLatin1_aae02 ∈ zi_gt := by decide +kernel
theorem zj_w12 : Cond.code yJ0_isLatin1_aae02 cJ0_isLatin1_aae02 1 (some .boolean) ∈ zi_gt := by decide +kernel
theorem zj_w13 : Cond.methodLink RJ0 495 yJ1_charAt_3b067 ∈ zi_gt := by decide +kernel
theorem zj_w14 : Cond.static yJ1_charAt_3b067 ∈ zi_gt := by decide +kernel
theorem zj_w15 : Cond.initialized "java/lang/StringLatin1" ∈ zi_gt := by decide +kernel
theorem zj_w16 : Cond.code yJ1_charAt_3b067 cJ1_charAt_3b067 2 (some .char) ∈ zi_gt := by decide +kernel
theorem zj_w17 : Cond.methodLink RJ1 9 yJ0_checkIndex_df160 ∈ zi_gt := by decide +kernel
theorem zj_w18 : Cond.static yJ0_checkIndex_df160 ∈ zi_gt := by decide +kernel
theorem zj_w19 : Cond.code yJ0_checkIndex_df160 cJ0_checkIndex_df160 2 none ∈ zi_gt := by decide +kernel
theorem zj_w20 : Cond.fieldLink RJ0 1053 "jdk/internal/util/Preconditions" "SIOOBE_FORMATTER" "Ljava/util/function/BiFunction;" ∈ zi_gt := by decide +kernel
theorem zj_w21 : Cond.methodLink RJ0 1059 yJ3_checkIndex_8e157 ∈ zi_gt := by decide +kernel
theorem zj_w22 : Cond.static yJ3_checkIndex_8e157 ∈ zi_gt := by decide +kernel
theorem zj_w23 : Cond.initialized "jdk/internal/util/Preconditions" ∈ zi_gt := by decide +kernel
theorem zj_w24 : Cond.code yJ3_checkIndex_8e157 cJ3_checkIndex_8e157 3 (some .int) ∈ zi_gt := by decide +kernel
theorem zj_w25 : Cond.code yJ0_length_8abf5 cJ0_length_8abf5 1 (some .int) ∈ zi_gt := by decide +kernel
theorem zj_w26 : Cond.instanceMethod yJ0_length_8abf5 ∈ zi_gt := by decide +kernel
theorem zj_w27 : Cond.selects "java/lang/String" yJ0_length_8abf5 yJ0_length_8abf5 ∈ zi_gt := by decide +kernel
theorem zj_w28 : Cond.code yJ0_charAt_5068e cJ0_charAt_5068e 2 (some .char) ∈ zi_gt := by decide +kernel
theorem zj_w29 : Cond.instanceMethod yJ0_charAt_5068e ∈ zi_gt := by decide +kernel
theorem zj_w30 : Cond.selects "java/lang/String" yJ0_charAt_5068e yJ0_charAt_5068e ∈ zi_gt := by decide +kernel
set_option maxHeartbeats 1000000 in
theorem zj_coder (l : Launch) {ak av len : Nat} {f : Nat → Int32} : Met l yJ0_coder_7d493 (Cond.code yJ0_coder_7d493 cJ0_coder_7d493 1 (some .byte) :: zi_gt) (zj_rm 1) (zj_P [.ref ak] (zj_F ak av len f)) (zj_Q (some (.int 0))) 0 0 (fun _ => False) := by
  refine Met.ofW (cc := cJ0_coder_7d493) (maxL := 1) (ret := some .byte) (by decide) rfl ?_
  intro p e s m args below meth c s₁ B hml hv
  obtain ⟨hargs, hO, hC, hV, hT, hZ, hF⟩ := hv
  subst hargs
  have hts : ∀ w ∈ zi_gt, w.before _ s = true := fun w hw => atoms_spec (ws := Cond.code yJ0_coder_7d493 cJ0_coder_7d493 1 (some .byte) :: zi_gt) B.pre w (List.mem_cons_of_mem _ hw)
  have hown : s.vm.findClass RJ0 = some m.cls := findClass_of_methodNamed B.named
  have hr := B.returns
  have hbb := B.bytes
  have hx := B.exec
  have hlocks := B.notSynchronized
  rw [lg_entry_eq]
  have hl := lv_entry [Value.ref ak] (n := 1) (Nat.le_of_ble_eq_true rfl)
  generalize ((lg_sl [Value.ref ak] ++ List.replicate (1 - (lg_sl [Value.ref ak]).length) Slot.unset).toArray) = als at hl ⊢
  have h0 : als[0]? = some (.val (.ref ak)) := hl.2.2 (0, .ref ak) (by simp [lv_args])
  refine va_gets hx hbb hZ zj_S hown (hts _ zj_w1) (fun x h => h) dJ0_coder_7d493_0 ?_
  refine lv_if_eq hx hbb dJ0_coder_7d493_3 (tgt := 13) rfl (fun q => absurd q (by decide)) (fun _ => ?_)
  refine lv_aload_n hx hbb dJ0_coder_7d493_6 rfl h0 ?_
  refine vk_getf hx hbb hC zj_S hown (hts _ zj_w2) (fun x h => h) dJ0_coder_7d493_7 ?_
  refine lv_goto hx hbb dJ0_coder_7d493_10 (tgt := 14) rfl ?_
  exact W.zret (v := 0) (ty := .byte) hx hbb hr rfl (fun t ht _ => ⟨rfl, ht⟩) (fun _ h => by cases h) dJ0_coder_7d493_14 hlocks
set_option maxHeartbeats 1000000 in
theorem zj_isLatin1 (l : Launch) {ak av len : Nat} {f : Nat → Int32} : Met l yJ0_isLatin1_aae02 (Cond.code yJ0_isLatin1_aae02 cJ0_isLatin1_aae02 1 (some .boolean) :: zi_gt) (zj_rm 1) (zj_P [.ref ak] (zj_F ak av len f)) (zj_Q (some (.int 1))) 0 0 (fun _ => False) := by
  refine Met.ofW (cc := cJ0_isLatin1_aae02) (maxL := 1) (ret := some .boolean) (by decide) rfl ?_
  intro p e s m args below meth c s₁ B hml hv
  obtain ⟨hargs, hO, hC, hV, hT, hZ, hF⟩ := hv
  subst hargs
  have hts : ∀ w ∈ zi_gt, w.before _ s = true := fun w hw => atoms_spec (ws := Cond.code yJ0_isLatin1_aae02 cJ0_isLatin1_aae02 1 (some .boolean) :: zi_gt) B.pre w (List.mem_cons_of_mem _ hw)
  have hown : s.vm.findClass RJ0 = some m.cls := findClass_of_methodNamed B.named
  have hr := B.returns
  have hbb := B.bytes
  have hx := B.exec
  have hlocks := B.notSynchronized
  rw [lg_entry_eq]
  have hl := lv_entry [Value.ref ak] (n := 1) (Nat.le_of_ble_eq_true rfl)
  generalize ((lg_sl [Value.ref ak] ++ List.replicate (1 - (lg_sl [Value.ref ak]).length) Slot.unset).toArray) = als at hl ⊢
  have h0 : als[0]? = some (.val (.ref ak)) := hl.2.2 (0, .ref ak) (by simp [lv_args])
  refine va_gets hx hbb hZ zj_S hown (hts _ zj_w1) (fun x h => h) dJ0_isLatin1_aae02_0 ?_
  refine lv_if_eq hx hbb dJ0_isLatin1_aae02_3 (tgt := 17) rfl (fun q => absurd q (by decide)) (fun _ => ?_)
  refine lv_aload_n hx hbb dJ0_isLatin1_aae02_6 rfl h0 ?_
  refine vk_getf hx hbb hC zj_S hown (hts _ zj_w2) (fun x h => h) dJ0_isLatin1_aae02_7 ?_
  refine lv_if_ne hx hbb dJ0_isLatin1_aae02_10 (tgt := 17) rfl (fun q => absurd rfl q) (fun _ => ?_)
  refine lv_iconst hx hbb dJ0_isLatin1_aae02_13 (v := 1) rfl ?_
  refine lv_goto hx hbb dJ0_isLatin1_aae02_14 (tgt := 18) rfl ?_
  exact W.zret (v := 1) (ty := .boolean) hx hbb hr rfl (fun t ht _ => ⟨rfl, ht⟩) (fun _ h => by cases h) dJ0_isLatin1_aae02_18 hlocks
set_option maxHeartbeats 1000000 in
theorem zj_length (l : Launch) {ak av len : Nat} {f : Nat → Int32} : Met l yJ0_length_8abf5 (Cond.code yJ0_length_8abf5 cJ0_length_8abf5 1 (some .int) :: zi_gt) (zj_rm 2) (zj_P [.ref ak] (zj_F ak av len f)) (zj_Q (some (.int (Int32.ofNat len >>> ((0 : Int32) &&& 31))))) 0 0 (fun _ => False) := by
  refine Met.ofW (cc := cJ0_length_8abf5) (maxL := 1) (ret := some .int) (by decide) rfl ?_
  intro p e s m args below meth c s₁ B hml hv
  obtain ⟨hargs, hFF⟩ := hv
  obtain ⟨hO, hC, hV, hT, hZ, hF⟩ := id hFF
  subst hargs
  have hts : ∀ w ∈ zi_gt, w.before _ s = true := fun w hw => atoms_spec (ws := Cond.code yJ0_length_8abf5 cJ0_length_8abf5 1 (some .int) :: zi_gt) B.pre w (List.mem_cons_of_mem _ hw)
  have hown : s.vm.findClass RJ0 = some m.cls := findClass_of_methodNamed B.named
  have hr := B.returns
  have hbb := B.bytes
  have hx := B.exec
  have hlocks := B.notSynchronized
  rw [lg_entry_eq]
  have hl := lv_entry [Value.ref ak] (n := 1) (Nat.le_of_ble_eq_true rfl)
  generalize ((lg_sl [Value.ref ak] ++ List.replicate (1 - (lg_sl [Value.ref ak]).length) Slot.unset).toArray) = als at hl ⊢
  have h0 : als[0]? = some (.val (.ref ak)) := hl.2.2 (0, .ref ak) (by simp [lv_args])
  obtain ⟨cell, o1, o2, o3, -⟩ := hO
  refine lv_aload_n hx hbb dJ0_length_8abf5_0 rfl h0 ?_
  refine vk_getf hx hbb hV zj_S hown (hts _ zj_w3) (fun x h => h) dJ0_length_8abf5_1 ?_
  refine va_tlen hx hbb hT zj_S rfl dJ0_length_8abf5_4 ?_
  refine lv_aload_n hx hbb dJ0_length_8abf5_5 rfl h0 ?_
  refine zj_cont (va_runV (As := []) (b := ak) (C := "java/lang/String") ⟨hx, hbb, hml, hown, hts⟩ (zj_coder l) ⟨callB_of 0 hts (zi_goodIn zj_w8) rfl rfl rfl (hts _ zj_w7) (hts _ zj_w4) ⟨by decide, by decide, by decide⟩ ⟨by show 1 + 1 ≤ 2; decide, by show 8 + (1 + 11) + 64 * 1 ≤ 64 * 2; decide⟩, hts _ zj_w5, hts _ zj_w6⟩ ⟨zj_blind, ⟨cell, o1, o2, o3⟩, fun U hU hW => ⟨rfl, hFF.moved hU hW.alike⟩⟩ rfl rfl hl.1 rfl (lv_room (Nat.le_of_ble_eq_true rfl)) dJ0_length_8abf5_6 ⟨Nat.le_refl _, Nat.le_refl _⟩) ?_
  refine lv_ishr hx hbb dJ0_length_8abf5_9 ?_
  exact W.iret hx hbb hr (fun t ht _ => ⟨rfl, ht⟩) (fun _ h => by cases h) dJ0_length_8abf5_10 hlocks
set_option maxHeartbeats 1000000 in
theorem zj_check3 (l : Launch) {i n : Int32} {vq : Value} (hvq : vq = .null ∨ ∃ t, vq = .ref t) (h1 : ¬ i < 0) (h2 : i < n) : Met l yJ3_checkIndex_8e157 (Cond.code yJ3_checkIndex_8e157 cJ3_checkIndex_8e157 3 (some .int) :: zi_gt) (zj_rm 1) (zj_P [.int i, .int n, vq] (fun _ => True)) (zj_Q (some (.int i))) 0 0 (fun _ => False) := by
  refine Met.ofW (cc := cJ3_checkIndex_8e157) (maxL := 3) (ret := some .int) (by decide) rfl ?_
  intro p e s m args below meth c s₁ B hml hv
  obtain ⟨hargs, -⟩ := hv
  subst hargs
  have hr := B.returns
  have hbb := B.bytes
  have hx := B.exec
  have hlocks := B.notSynchronized
  rw [lg_entry_eq]
  have hc : vq.category = 1 := by rcases hvq with rfl | ⟨t, rfl⟩ <;> rfl
  have hl := lv_entry [Value.int i, .int n, vq] (n := 3) (by rcases hvq with rfl | ⟨t, rfl⟩ <;> exact Nat.le_of_ble_eq_true rfl)
  generalize ((lg_sl [Value.int i, .int n, vq] ++ List.replicate (3 - (lg_sl [Value.int i, .int n, vq]).length) Slot.unset).toArray) = als at hl ⊢
  have k0 : als[0]? = some (.val (.int i)) := hl.2.2 (0, .int i) (by simp [lv_args])
  have k1 : als[1]? = some (.val (.int n)) := hl.2.2 (1, .int n) (by simp [lv_args, Value.category])
  refine lv_iload_n hx hbb dJ3_checkIndex_8e157_0 rfl k0 ?_
  refine lv_if_lt hx hbb dJ3_checkIndex_8e157_1 (tgt := 9) rfl (fun q => absurd q h1) (fun _ => ?_)
  refine lv_iload_n hx hbb dJ3_checkIndex_8e157_4 rfl k0 ?_
  refine lv_iload_n hx hbb dJ3_checkIndex_8e157_5 rfl k1 ?_
  refine lv_icmp_lt hx hbb dJ3_checkIndex_8e157_6 (tgt := 16) rfl (fun _ => ?_) (fun q => absurd h2 q)
  refine lv_iload_n hx hbb dJ3_checkIndex_8e157_16 rfl k0 ?_
  exact W.iret hx hbb hr (fun t ht _ => ⟨rfl, ht⟩) (fun _ h => by cases h) dJ3_checkIndex_8e157_17 hlocks
set_option maxHeartbeats 1000000 in
theorem zj_check (l : Launch) {ak av len : Nat} {f : Nat → Int32} {i n : Int32} (h1 : ¬ i < 0) (h2 : i < n) : Met l yJ0_checkIndex_df160 (Cond.code yJ0_checkIndex_df160 cJ0_checkIndex_df160 2 none :: zi_gt) (zj_rm 2) (zj_P [.int i, .int n] (zj_F ak av len f)) (zj_Q none) 0 0 (fun _ => False) := by
  refine Met.ofW (cc := cJ0_checkIndex_df160) (maxL := 2) (ret := none) (by decide) rfl ?_
  intro p e s m args below meth c s₁ B hml hv
  obtain ⟨hargs, hO, hC, hV, hT, hZ, hF⟩ := hv
  subst hargs
  have hts : ∀ w ∈ zi_gt, w.before _ s = true := fun w hw => atoms_spec (ws := Cond.code yJ0_checkIndex_df160 cJ0_checkIndex_df160 2 none :: zi_gt) B.pre w (List.mem_cons_of_mem _ hw)
  have hown : s.vm.findClass RJ0 = some m.cls := findClass_of_methodNamed B.named
  have hr := B.returns
  have hbb := B.bytes
  have hx := B.exec
  have hlocks := B.notSynchronized
  rw [lg_entry_eq]
  have hl := lv_entry [Value.int i, .int n] (n := 2) (Nat.le_of_ble_eq_true rfl)
  generalize ((lg_sl [Value.int i, .int n] ++ List.replicate (2 - (lg_sl [Value.int i, .int n]).length) Slot.unset).toArray) = als at hl ⊢
  have k0 : als[0]? = some (.val (.int i)) := hl.2.2 (0, .int i) (by simp [lv_args])
  have k1 : als[1]? = some (.val (.int n)) := hl.2.2 (1, .int n) (by simp [lv_args, Value.category])
  refine lv_iload_n hx hbb dJ0_checkIndex_df160_0 rfl k0 ?_
  refine lv_iload_n hx hbb dJ0_checkIndex_df160_1 rfl k1 ?_
  have go : ∀ {vq : Value}, (vq = .null ∨ ∃ t, vq = .ref t) → va_Z "jdk/internal/util/Preconditions" "SIOOBE_FORMATTER" "Ljava/util/function/BiFunction;" vq zj_N s s.heap → W p l e (headSpec (Cond.code yJ0_checkIndex_df160 cJ0_checkIndex_df160 2 none :: zi_gt) (zj_rm 2)).room s m #[Value.int i, Value.int n] below meth c s.heap [] 0 0 (MQ below (zj_Q none) #[Value.int i, Value.int n] s 0 0 (fun _ => False)) (F0 m (0 + 1 + 1) als [.int n, .int i]) := by
    intro vq hvq hZ9
    refine va_gets hx hbb hZ9 zj_S hown (hts _ zj_w20) (fun x h => h) dJ0_checkIndex_df160_2 ?_
    refine zj_cont (va_runS (As := [.int i, .int n, vq]) ⟨hx, hbb, hml, hown, hts⟩ (zj_check3 l hvq h1 h2) ⟨callB_of 3 hts (zi_goodIn zj_w24) rfl rfl rfl (hts _ zj_w23) (hts _ zj_w21) ⟨by decide, by decide, by decide⟩ ⟨by show 1 + 1 ≤ 2; decide, by show 8 + (3 + 11) + 64 * 1 ≤ 64 * 2; decide⟩, hts _ zj_w22⟩ ⟨zj_blindT, fun U hU hW => ⟨rfl, trivial⟩⟩ rfl rfl hl.1 rfl (lv_room (Nat.le_of_ble_eq_true rfl)) dJ0_checkIndex_df160_5 ⟨Nat.le_refl _, Nat.le_refl _⟩) ?_
    refine lv_pop hx hbb dJ0_checkIndex_df160_8 rfl ?_
    exact W.vret hx hbb hr (fun t ht _ => ⟨rfl, ht⟩) (fun _ h => by cases h) dJ0_checkIndex_df160_9 hlocks
  rcases hF with h9 | ⟨t, h9⟩
  · exact go (Or.inl rfl) h9
  · exact go (Or.inr ⟨t, rfl⟩) h9
set_option maxHeartbeats 1000000 in
theorem zj_charL (l : Launch) {ak av len : Nat} {f : Nat → Int32} {i : Int32} {x : Int32} (h1 : ¬ i < 0) (h2 : i < Int32.ofNat len) (h3 : i.toNatClampNeg < len) (hx9 : ((f i.toNatClampNeg &&& 255).toUInt32 % 65536).toInt32 = x) (hn9 : narrow .char (.int x) = .int x) : Met l yJ1_charAt_3b067 (Cond.code yJ1_charAt_3b067 cJ1_charAt_3b067 2 (some .char) :: zi_gt) (zj_rm 3) (zj_P [.ref av, .int i] (zj_F ak av len f)) (zj_Q (some (.int x))) 0 0 (fun _ => False) := by
  refine Met.ofW (cc := cJ1_charAt_3b067) (maxL := 2) (ret := some .char) (by decide) rfl ?_
  intro p e s m args below meth c s₁ B hml hv
  obtain ⟨hargs, hFF⟩ := hv
  obtain ⟨hO, hC, hV, hT, hZ, hF⟩ := id hFF
  subst hargs
  have hts : ∀ w ∈ zi_gt, w.before _ s = true := fun w hw => atoms_spec (ws := Cond.code yJ1_charAt_3b067 cJ1_charAt_3b067 2 (some .char) :: zi_gt) B.pre w (List.mem_cons_of_mem _ hw)
  have hown : s.vm.findClass RJ1 = some m.cls := findClass_of_methodNamed B.named
  have hr := B.returns
  have hbb := B.bytes
  have hx := B.exec
  have hlocks := B.notSynchronized
  rw [lg_entry_eq]
  have hl := lv_entry [Value.ref av, .int i] (n := 2) (Nat.le_of_ble_eq_true rfl)
  generalize ((lg_sl [Value.ref av, .int i] ++ List.replicate (2 - (lg_sl [Value.ref av, .int i]).length) Slot.unset).toArray) = als at hl ⊢
  have k0 : als[0]? = some (.val (.ref av)) := hl.2.2 (0, .ref av) (by simp [lv_args])
  have k1 : als[1]? = some (.val (.int i)) := hl.2.2 (1, .int i) (by simp [lv_args, Value.category])
  refine lv_iload_n hx hbb dJ1_charAt_3b067_0 rfl k1 ?_
  refine lv_aload_n hx hbb dJ1_charAt_3b067_1 rfl k0 ?_
  refine va_tlen hx hbb hT zj_S rfl dJ1_charAt_3b067_2 ?_
  refine zj_cont (va_runS (As := [.int i, .int (Int32.ofNat len)]) ⟨hx, hbb, hml, hown, hts⟩ (zj_check l (ak := ak) (av := av) (len := len) (f := f) h1 h2) ⟨callB_of 2 hts (zi_goodIn zj_w19) rfl rfl rfl (hts _ zj_w7) (hts _ zj_w17) ⟨by decide, by decide, by decide⟩ ⟨by show 2 + 1 ≤ 3; decide, by show 8 + (2 + 11) + 64 * 2 ≤ 64 * 3; decide⟩, hts _ zj_w18⟩ ⟨zj_blind, fun U hU hW => ⟨rfl, hFF.moved hU hW.alike⟩⟩ rfl rfl hl.1 rfl (lv_room (Nat.le_of_ble_eq_true rfl)) dJ1_charAt_3b067_3 ⟨Nat.le_refl _, Nat.le_refl _⟩) ?_
  refine lv_aload_n hx hbb dJ1_charAt_3b067_6 rfl k0 ?_
  refine lv_iload_n hx hbb dJ1_charAt_3b067_7 rfl k1 ?_
  refine va_tb hx hbb hT zj_S (fun q => q.elim h1 (fun w => absurd h3 (Nat.not_lt.mpr w))) rfl dJ1_charAt_3b067_8 ?_
  refine lv_sipush hx hbb dJ1_charAt_3b067_9 (v := 255) rfl ?_
  refine lv_iand hx hbb dJ1_charAt_3b067_12 ?_
  refine lv_i2c hx hbb dJ1_charAt_3b067_13 hx9 ?_
  exact W.zret (v := x) (ty := .char) hx hbb hr hn9 (fun t ht _ => ⟨rfl, ht⟩) (fun _ h => by cases h) dJ1_charAt_3b067_14 hlocks
set_option maxHeartbeats 1000000 in
theorem zj_charAt (l : Launch) {ak av len : Nat} {f : Nat → Int32} {i : Int32} {x : Int32} (h1 : ¬ i < 0) (h2 : i < Int32.ofNat len) (h3 : i.toNatClampNeg < len) (hx9 : ((f i.toNatClampNeg &&& 255).toUInt32 % 65536).toInt32 = x) (hn9 : narrow .char (.int x) = .int x) : Met l yJ0_charAt_5068e (Cond.code yJ0_charAt_5068e cJ0_charAt_5068e 2 (some .char) :: zi_gt) (zj_rm 4) (zj_P [.ref ak, .int i] (zj_F ak av len f)) (zj_Q (some (.int x))) 0 0 (fun _ => False) := by
  refine Met.ofW (cc := cJ0_charAt_5068e) (maxL := 2) (ret := some .char) (by decide) rfl ?_
  intro p e s m args below meth c s₁ B hml hv
  obtain ⟨hargs, hFF⟩ := hv
  obtain ⟨hO, hC, hV, hT, hZ, hF⟩ := id hFF
  subst hargs
  have hts : ∀ w ∈ zi_gt, w.before _ s = true := fun w hw => atoms_spec (ws := Cond.code yJ0_charAt_5068e cJ0_charAt_5068e 2 (some .char) :: zi_gt) B.pre w (List.mem_cons_of_mem _ hw)
  have hown : s.vm.findClass RJ0 = some m.cls := findClass_of_methodNamed B.named
  have hr := B.returns
  have hbb := B.bytes
  have hx := B.exec
  have hlocks := B.notSynchronized
  rw [lg_entry_eq]
  have hl := lv_entry [Value.ref ak, .int i] (n := 2) (Nat.le_of_ble_eq_true rfl)
  generalize ((lg_sl [Value.ref ak, .int i] ++ List.replicate (2 - (lg_sl [Value.ref ak, .int i]).length) Slot.unset).toArray) = als at hl ⊢
  have k0 : als[0]? = some (.val (.ref ak)) := hl.2.2 (0, .ref ak) (by simp [lv_args])
  have k1 : als[1]? = some (.val (.int i)) := hl.2.2 (1, .int i) (by simp [lv_args, Value.category])
  obtain ⟨cell, o1, o2, o3, -⟩ := hO
  refine lv_aload_n hx hbb dJ0_charAt_5068e_0 rfl k0 ?_
  refine zj_cont (va_runV (As := []) (b := ak) (C := "java/lang/String") ⟨hx, hbb, hml, hown, hts⟩ (zj_isLatin1 l) ⟨callB_of 0 hts (zi_goodIn zj_w12) rfl rfl rfl (hts _ zj_w7) (hts _ zj_w9) ⟨by decide, by decide, by decide⟩ ⟨by show 1 + 1 ≤ 4; decide, by show 8 + (1 + 11) + 64 * 1 ≤ 64 * 4; decide⟩, hts _ zj_w10, hts _ zj_w11⟩ ⟨zj_blind, ⟨cell, o1, o2, o3⟩, fun U hU hW => ⟨rfl, hFF.moved hU hW.alike⟩⟩ rfl rfl hl.1 rfl (lv_room (Nat.le_of_ble_eq_true rfl)) dJ0_charAt_5068e_1 ⟨Nat.le_refl _, Nat.le_refl _⟩) ?_
  refine lv_if_eq hx hbb dJ0_charAt_5068e_4 (tgt := 16) rfl (fun q => absurd q (by decide)) (fun _ => ?_)
  refine lv_aload_n hx hbb dJ0_charAt_5068e_7 rfl k0 ?_
  refine vk_getf hx hbb hV zj_S hown (hts _ zj_w3) (fun x h => h) dJ0_charAt_5068e_8 ?_
  refine lv_iload_n hx hbb dJ0_charAt_5068e_11 rfl k1 ?_
  refine zj_cont (va_runS (As := [.ref av, .int i]) ⟨hx, hbb, hml, hown, hts⟩ (zj_charL l (ak := ak) (av := av) (len := len) (f := f) h1 h2 h3 hx9 hn9) ⟨callB_of 2 hts (zi_goodIn zj_w16) rfl rfl rfl (hts _ zj_w15) (hts _ zj_w13) ⟨by decide, by decide, by decide⟩ ⟨by show 3 + 1 ≤ 4; decide, by show 8 + (2 + 11) + 64 * 3 ≤ 64 * 4; decide⟩, hts _ zj_w14⟩ ⟨zj_blind, fun U hU hW => ⟨rfl, hFF.moved hU hW.alike⟩⟩ rfl rfl hl.1 rfl (lv_room (Nat.le_of_ble_eq_true rfl)) dJ0_charAt_5068e_12 ⟨Nat.le_refl _, Nat.le_refl _⟩) ?_
  exact W.zret (v := x) (ty := .char) hx hbb hr hn9 (fun t ht _ => ⟨rfl, ht⟩) (fun _ h => by cases h) dJ0_charAt_5068e_15 hlocks
/-- the texts' own numbers -/
theorem zj_len : ∀ k, 1 ≤ k → k < 5 → (Int32.ofNat (zi_sl k) >>> ((0 : Int32) &&& 31)) = Int32.ofNat (zi_sl k) := by
  intro k h1 h2
  have : k = 1 ∨ k = 2 ∨ k = 3 ∨ k = 4 := by omega
  rcases this with rfl | rfl | rfl | rfl <;> decide +kernel
theorem zj_chr : ∀ k, k < 5 → ∀ j, j < zi_sl k → ((zi_sc k j &&& 255).toUInt32 % 65536).toInt32 = zi_sc k j ∧ narrow .char (.int (zi_sc k j)) = .int (zi_sc k j) := by decide +kernel
theorem zj_lt {k : Nat} {j : Int32} (h : ¬ (j < 0 ∨ zi_sl k ≤ j.toNatClampNeg)) (hk : k < 5) : ¬ j < 0 ∧ j < Int32.ofNat (zi_sl k) ∧ j.toNatClampNeg < zi_sl k := by
  have h0 : ¬ j < 0 := fun q => h (Or.inl q)
  have h3 : j.toNatClampNeg < zi_sl k := Nat.not_le.mp fun q => h (Or.inr q)
  refine ⟨h0, ?_, h3⟩
  obtain ⟨i, hi, rfl⟩ := nI_of h0
  rw [nI_clamp hi] at h3
  have h4 : zi_sl k ≤ 4 := by
    have : k = 0 ∨ k = 1 ∨ k = 2 ∨ k = 3 ∨ k = 4 := by omega
    rcases this with rfl | rfl | rfl | rfl | rfl <;> decide
  exact nI_lt h3 (by omega)
section ZTEXT
variable {p : Program} {l : Launch} {e : Env} {R : Room} {s : State} {m : MethodId} {args : Array Value} {below : List Frame} {meth : Method} {c : Code} {Q : State → Prop}
variable {D : va_G} {dA : Nat → ClassId} {b : Nat → Nat} {L : Nat} {xs : Nat → Int32} {H0 : Heap} {cc : ByteArray} {nL own n0 s0 : Nat} {ini : Bool}
variable {pc : Nat} {ls st : List Value} {h : zi_Hp} {c2 : zi_Cf} {len r1 r2 r3 pi : Nat} {z : Int}
theorem zi_SK.use {k : Nat} {U : State} {H : Heap} (hS : zi_SK b H0 U) (h1 : 1 ≤ k) (h2 : k < 5) (hq : ∀ q, q < H0.size → H[q]? = H0[q]?) (hU : U.heap = H) : ∃ av, zj_F (b k) av (zi_sl k) (zi_sc k) U := by
  obtain ⟨av, g1, g2, g3⟩ := hS
  obtain ⟨-, k1, k2, k3, k4⟩ := g1 k h1 h2
  refine ⟨av k, ?_⟩
  unfold zj_F
  rw [hU]
  have q1 : ∀ a : Nat, a < H0.size → ¬ (H0.size ≤ a) → H[a]? = H0[a]? := fun a ha _ => hq a ha
  have q2 : ∀ q, zj_N q → H0.size ≤ q := fun q h => False.elim h
  exact ⟨(k1.kept q1).narrow q2, (k2.kept q1).narrow q2, (k3.kept q1).narrow q2, (k4.kept q1).narrow q2, (g2.kept q1).narrow q2, (g3.kept q1).narrow q2⟩
theorem zi_s_ldc {ix : Nat} (hC : zi_Cx p R s m args meth c D dA b L xs H0 cc nL own ini) (hd : decode cc pc = .ok (.ldc ix, 2)) (ho : own = 1) (hi : ix = zi_sx r1) (hs : zi_st (.ldc ix, len, r1, r2, r3, pi, z) pc ls st h = some (.inl c2)) (hcb : zh_n c2.2.2.2 ≤ n0 + R.cells) (hsb : zh_s c2.2.2.2 ≤ s0 + R.slots) (kk : zi_At p l e R s m args below meth c Q D dA b L xs H0 nL n0 s0 c2) : zi_At p l e R s m args below meth c Q D dA b L xs H0 nL n0 s0 (pc, ls, st, h) := by
  intro H als locs cells slots hR hL hlo hn hsl
  obtain ⟨hx, hb, hml, hown, hts, hK, hini, hfr, hlc, hbl⟩ := hC
  dsimp only [zi_st] at hs
  split at hs
  · rename_i hr
    cases hs
    subst ho
    subst hi
    obtain ⟨av, g1, -⟩ := hK.2.2.2.2.2.2
    exact va_ldcS hx hb hown (g1 r1 hr.1 hr.2).1 hd (kk H als locs cells slots hR hL hlo hn hsl)
  · cases hs
set_option maxHeartbeats 1000000 in
theorem zi_s_slen {ix : Nat} (hC : zi_Cx p R s m args meth c D dA b L xs H0 cc nL own ini) (hd : decode cc pc = .ok (.invokevirtual ix, 3)) (hr : r2 = 7) (hw : Cond.methodLink (zi_own own) ix zj_yL ∈ zi_gt) (hs : zi_st (.invokevirtual ix, len, r1, r2, r3, pi, z) pc ls st h = some (.inl c2)) (hcb : zh_n c2.2.2.2 ≤ n0 + R.cells) (hsb : zh_s c2.2.2.2 ≤ s0 + R.slots) (kk : zi_At p l e R s m args below meth c Q D dA b L xs H0 nL n0 s0 c2) : zi_At p l e R s m args below meth c Q D dA b L xs H0 nL n0 s0 (pc, ls, st, h) := by
  intro H als locs cells slots hR hL hlo hn hsl
  replace hR : zi_Rl D dA b L xs H0 h H := hR
  obtain ⟨hx, hb, hml, hown, hts, hK, hini, hfr, hlc, hbl⟩ := hC
  subst hr
  dsimp only [zi_st] at hs
  rw [if_neg (fun q => absurd q.1 (by decide))] at hs
  split at hs
  · split at hs
    · rename_i k r e7 hc
      obtain ⟨⟨h1, h2⟩, h3⟩ := hc
      cases hs
      have h9 := (kk H als locs cells slots hR hL hlo hn hsl)
      replace hn : n0 + cells = zh_n h := hn
      replace hsl : s0 + slots = zh_s h := hsl
      have hcb' : zh_n h ≤ n0 + R.cells := hcb
      have hsb' : zh_s h ≤ s0 + R.slots := hsb
      obtain ⟨av, g1, g2, g3⟩ := hK.2.2.2.2.2.2
      have hS : zi_SK b H0 s := ⟨av, g1, g2, g3⟩
      obtain ⟨cell, o1, o2, o3, -⟩ := ((g1 k h1 h2).2.1).kept (H1 := H) (fun a ha _ => hR.2.1 a ha)
      have hM : Met l yJ0_length_8abf5 (Cond.code yJ0_length_8abf5 cJ0_length_8abf5 1 (some .int) :: zi_gt) (zj_rm 2) (zj_P [.ref (b k)] (zj_F (b k) (av k) (zi_sl k) (zi_sc k))) (zj_Q (some (.int (Int32.ofNat (zi_sl k))))) 0 0 (fun _ => False) := by
        have h8 := zj_length l (ak := b k) (av := av k) (len := zi_sl k) (f := zi_sc k)
        rw [zj_len k h1 h2] at h8
        exact h8
      refine zj_cont (v0 := some (.int (Int32.ofNat (zi_sl k)))) (va_runV (As := []) (b := b k) (C := "java/lang/String") (y := yJ0_length_8abf5) (mc := 0) (ms := 0) ⟨hx, hb, hml, hown, hts⟩ hM ⟨callB_of 0 hts (zi_goodIn zj_w25) rfl rfl rfl (hts _ zj_w7) (hts _ hw) ⟨by decide, by decide, by decide⟩ ⟨by show 2 + 1 ≤ R.frames; omega, by show 8 + (1 + 11) + 64 * 2 ≤ R.locals; omega⟩, hts _ zj_w26, hts _ zj_w27⟩ ⟨zj_blind, ⟨cell, o1, o2, o3⟩, fun U hU hW => ⟨rfl, ?_⟩⟩ rfl rfl hL.1.1 rfl (lv_room (zi_cat4 H0.size b h3)) hd ⟨by omega, by omega⟩) h9
      have hS2 := hS.warm hW
      obtain ⟨av2, j1, j2, j3⟩ := id hS2
      have q1 : ∀ a : Nat, a < H0.size → ¬ (H0.size ≤ a) → H[a]? = H0[a]? := fun a ha _ => hR.2.1 a ha
      have q2 : ∀ q, zj_N q → H0.size ≤ q := fun q h => False.elim h
      obtain ⟨-, k1, k2, k3, k4⟩ := g1 k h1 h2
      unfold zj_F
      rw [hU]
      exact ⟨((k1.moved hW.alike).kept q1).narrow q2, ((k2.moved hW.alike).kept q1).narrow q2, ((k3.moved hW.alike).kept q1).narrow q2, ((k4.moved hW.alike).kept q1).narrow q2, ((g2.moved hW.alike).kept q1).narrow q2, ((g3.moved hW.alike).kept q1).narrow q2⟩
    · cases hs
  · exfalso; omega
  · cases hs
set_option maxHeartbeats 1000000 in
theorem zi_s_sch {ix : Nat} (hC : zi_Cx p R s m args meth c D dA b L xs H0 cc nL own ini) (hd : decode cc pc = .ok (.invokevirtual ix, 3)) (hr : r2 = 8) (hw : Cond.methodLink (zi_own own) ix zj_yC ∈ zi_gt) (hs : zi_st (.invokevirtual ix, len, r1, r2, r3, pi, z) pc ls st h = some (.inl c2)) (hcb : zh_n c2.2.2.2 ≤ n0 + R.cells) (hsb : zh_s c2.2.2.2 ≤ s0 + R.slots) (kk : zi_At p l e R s m args below meth c Q D dA b L xs H0 nL n0 s0 c2) : zi_At p l e R s m args below meth c Q D dA b L xs H0 nL n0 s0 (pc, ls, st, h) := by
  intro H als locs cells slots hR hL hlo hn hsl
  replace hR : zi_Rl D dA b L xs H0 h H := hR
  obtain ⟨hx, hb, hml, hown, hts, hK, hini, hfr, hlc, hbl⟩ := hC
  subst hr
  dsimp only [zi_st] at hs
  rw [if_neg (fun q => absurd q.1 (by decide))] at hs
  split at hs
  · exfalso; omega
  · split at hs
    · rename_i j k r e8 hc
      obtain ⟨⟨h1, h2⟩, hj, h3⟩ := hc
      cases hs
      have h9 := (kk H als locs cells slots hR hL hlo hn hsl)
      replace hn : n0 + cells = zh_n h := hn
      replace hsl : s0 + slots = zh_s h := hsl
      have hcb' : zh_n h ≤ n0 + R.cells := hcb
      have hsb' : zh_s h ≤ s0 + R.slots := hsb
      obtain ⟨av, g1, g2, g3⟩ := hK.2.2.2.2.2.2
      obtain ⟨cell, o1, o2, o3, -⟩ := ((g1 k h1 h2).2.1).kept (H1 := H) (fun a ha _ => hR.2.1 a ha)
      obtain ⟨j1, j2, j3⟩ := zj_lt hj h2
      obtain ⟨c1, c2⟩ := zj_chr k h2 _ j3
      refine zj_cont (v0 := some (.int (zi_sc k j.toNatClampNeg))) (va_runV (As := [.int j]) (b := b k) (C := "java/lang/String") (y := yJ0_charAt_5068e) (mc := 0) (ms := 0) ⟨hx, hb, hml, hown, hts⟩ (zj_charAt l (ak := b k) (av := av k) (len := zi_sl k) (f := zi_sc k) j1 j2 j3 c1 c2) ⟨callB_of 1 hts (zi_goodIn zj_w28) rfl rfl rfl (hts _ zj_w7) (hts _ hw) ⟨by decide, by decide, by decide⟩ ⟨by show 4 + 1 ≤ R.frames; omega, by show 8 + (2 + 11) + 64 * 4 ≤ R.locals; omega⟩, hts _ zj_w29, hts _ zj_w30⟩ ⟨zj_blind, ⟨cell, o1, o2, o3⟩, fun U hU hW => ⟨rfl, ?_⟩⟩ rfl rfl hL.1.1 rfl (lv_room (zi_cat4 H0.size b h3)) hd ⟨by omega, by omega⟩) h9
      have q1 : ∀ a : Nat, a < H0.size → ¬ (H0.size ≤ a) → H[a]? = H0[a]? := fun a ha _ => hR.2.1 a ha
      have q2 : ∀ q, zj_N q → H0.size ≤ q := fun q h => False.elim h
      obtain ⟨-, k1, k2, k3, k4⟩ := g1 k h1 h2
      unfold zj_F
      rw [hU]
      exact ⟨((k1.moved hW.alike).kept q1).narrow q2, ((k2.moved hW.alike).kept q1).narrow q2, ((k3.moved hW.alike).kept q1).narrow q2, ((k4.moved hW.alike).kept q1).narrow q2, ((g2.moved hW.alike).kept q1).narrow q2, ((g3.moved hW.alike).kept q1).narrow q2⟩
    · cases hs
  · cases hs
end ZTEXT
