/-! CLASS AND REFERENCE: every step -/
section R31O
variable {h : zi_Hp} {W : Nat} {x x0 x1 X : Nat → Nat → Int32} {y y1 : Nat → Nat → Bool} {s s1 t : Nat → Int32} {N R M B c n k : Nat} {L m H r : Nat → Nat} {K C : Nat → Nat → Nat} {f : Nat → Nat}
/-- who may not step does nothing -/
theorem ms_0 (I : InvG s N R M B L m H r K C f) (hc : c < 3) (hm : msF s c = false) {cd : Int32} (A : StA s c cd s1) : cd = 0 ∧ s1 = s := by
  obtain ⟨⟨⟨a1, a2, a3⟩, ⟨b1, b2⟩, -, G, -⟩, -, -⟩ := id I
  unfold msF at hm
  rw [Bool.and_eq_false_iff] at hm
  rcases hm with ho | hz
  · unfold onB at ho
    rw [decide_eq_false_iff_not] at ho
    have no : ∀ v : Int32, ¬ v = 0 → ¬ v = 5 → s (315 + 24 * c) = v → False := fun v h0 h5 e => ho ⟨by rw [e]; exact h0, by rw [e]; exact h5⟩
    rcases A with ⟨t1, -⟩ | ⟨t1, -⟩ | ⟨t1, -⟩ | ⟨t1, -⟩ | ⟨t1, -⟩ | ⟨t1, -⟩ | ⟨-, t2, t3⟩
    · exact (no _ (by decide) (by decide) t1).elim
    · exact (no _ (by decide) (by decide) t1).elim
    · exact (no _ (by decide) (by decide) t1).elim
    · exact (no _ (by decide) (by decide) t1).elim
    · exact (no _ (by decide) (by decide) t1).elim
    · exact (no _ (by decide) (by decide) t1).elim
    · exact ⟨t2, t3⟩
  · rw [Bool.not_eq_false'] at hz
    unfold sbF at hz
    by_cases h1 : s (315 + 24 * c) = 1
    · have hon : onB s c = true := by unfold onB; rw [h1]; decide
      obtain ⟨a, ha, ea⟩ := I.at hc hon
      rw [if_pos h1, decide_eq_true_eq, ea, nI_clamp (by omega)] at hz
      obtain ⟨z4, z2, z0, z1, zl⟩ := hz
      have no : ∀ v : Int32, ¬ v = 1 → s (315 + 24 * c) = v → False := fun v hv e => hv (by rw [← e]; exact h1)
      rcases A with ⟨-, D⟩ | ⟨t1, -⟩ | ⟨t1, -⟩ | ⟨t1, -⟩ | ⟨t1, -⟩ | ⟨t1, -⟩ | ⟨t1, -⟩
      · obtain ⟨n, hn, e, D⟩ := D
        have en : n = a := by rw [ea] at e; exact ((nI_eq' (by omega) (by omega)).mp e).symm
        subst en
        rcases D with ⟨q, -, -⟩ | ⟨-, -, ⟨t, j, q1, q2, q3, -⟩ | ⟨-, ⟨q, -⟩ | ⟨-, q, -⟩ | ⟨-, -, q1, q2⟩⟩⟩
        · rcases q with q | q
          · rw [z4] at q; exact absurd q (by decide)
          · exact absurd q z2
        · rw [z0] at q3
          have := (nI_eq' (a := 0) (b := t) (by decide) (by omega)).mp q3
          omega
        · exact absurd q z1
        · exact absurd q zl
        · exact ⟨q1, q2⟩
      · exact (no _ (by decide) t1).elim
      · exact (no _ (by decide) t1).elim
      · exact (no _ (by decide) t1).elim
      · exact (no _ (by decide) t1).elim
      · exact (no _ (by decide) t1).elim
      · rcases t1 with t1 | t1
        · exact (no _ (by decide) t1).elim
        · exact (no _ (by decide) t1).elim
    · rw [if_neg h1, decide_eq_true_eq] at hz
      have h3 := hz.1
      have hon : onB s c = true := by unfold onB; rw [h3]; decide
      obtain ⟨a, ha, ea⟩ := I.at hc hon
      rw [ea, nI_clamp (by omega), b1, nI_clamp (by omega)] at hz
      obtain ⟨-, zr, z0, z2, zl⟩ := hz
      have no : ∀ v : Int32, ¬ v = 3 → s (315 + 24 * c) = v → False := fun v hv e => hv (by rw [← e]; exact h3)
      rcases A with ⟨t1, -⟩ | ⟨t1, -⟩ | ⟨t1, -⟩ | ⟨-, D⟩ | ⟨t1, -⟩ | ⟨t1, -⟩ | ⟨t1, -⟩
      · exact (no _ (by decide) t1).elim
      · exact (no _ (by decide) t1).elim
      · exact (no _ (by decide) t1).elim
      · obtain ⟨n, r9, hn, hr, e, er, D⟩ := D
        have en : n = a := by rw [ea] at e; exact ((nI_eq' (by omega) (by omega)).mp e).symm
        have en' : r9 = R := by rw [b1] at er; exact ((nI_eq' (by omega) (by omega)).mp er).symm
        subst en en'
        rcases D with ⟨q, -⟩ | ⟨-, ⟨q, -⟩ | ⟨-, ⟨q, -⟩ | ⟨-, ⟨q, -⟩ | ⟨-, q, -⟩ | ⟨-, -, q1, q2⟩⟩⟩⟩
        · exact absurd q zr
        · rw [z0] at q; exact absurd q (Int32.lt_irrefl)
        · exact absurd q z2
        · rw [z0] at q; exact absurd q (Int32.lt_irrefl)
        · exact absurd q zl
        · exact ⟨q1, q2⟩
      · exact (no _ (by decide) t1).elim
      · exact (no _ (by decide) t1).elim
      · rcases t1 with t1 | t1
        · exact (no _ (by decide) t1).elim
        · exact (no _ (by decide) t1).elim
theorem std_o {k0 : Int32} (D : StD s c k0 s1) : ∀ k, k < 315 → s1 k = s k := fun k hk => by
  obtain ⟨n, hn, e, D⟩ := D
  rcases D with ⟨-, -, rfl⟩ | ⟨-, -, ⟨t, j, -, -, -, -, -, -, -, rfl⟩ | ⟨-, ⟨-, mm, -, -, -, rfl⟩ | ⟨-, -, -, rfl⟩ | ⟨-, -, -, rfl⟩⟩⟩
  · rw [up_n _ _ (by omega)]
  · rw [up_n _ _ (by omega), up_n _ _ (by omega)]
  · rw [up_n _ _ (by omega), up_n _ _ (by omega)]
  · rw [up_n _ _ (by omega)]
  · rfl
theorem sto_o {k0 : Int32} (D : StO s c k0 s1) (h7 : ¬ k0 = 7) : ∀ k, k < 315 → s1 k = s k := fun k hk => by
  obtain ⟨n, r9, hn, hr, e, er, D⟩ := D
  rcases D with ⟨-, ⟨-, -, rfl⟩ | ⟨-, v, -, -, w, -⟩⟩ | ⟨-, ⟨-, -, rfl⟩ | ⟨-, ⟨-, -, rfl⟩ | ⟨-, ⟨-, j, -, -, -, -, rfl⟩ | ⟨-, -, -, rfl⟩ | ⟨-, -, -, rfl⟩⟩⟩⟩
  · rw [up_n _ _ (by omega)]
  · exact absurd w h7
  · rw [up_n _ _ (by omega)]
  · rw [up_n _ _ (by omega)]
  · rw [up_n _ _ (by omega)]
  · rw [up_n _ _ (by omega)]
  · rfl
theorem CR.cg (T : CR x y t N m) (I : InvG s N R M B L m H r K C f) {N' R' M' B' : Nat} {L' m' H' r' : Nat → Nat} {K' C' : Nat → Nat → Nat} {f' : Nat → Nat} (J : InvG s1 N' R' M' B' L' m' H' r' K' C' f') (e : ∀ k, k < 315 → s1 k = s k) : CR x y t N' m' := by
  have hN := I.1.1.2.2
  have M4 := I.1.2.2.1.2.2
  have hN' : N' = N := nI_Neq J (by omega) (by rw [e _ (by decide)]; exact I.1.1.1)
  subst hN'
  refine ⟨⟨T.1.1, fun n hn => ⟨(T.1.2 n hn).1, fun i hi => (T.1.2 n hn).2 i ?_⟩⟩, T.2⟩
  have := (I.1.2.2.2.1 n hn).2.2.2.2.2.2.2.1
  have em : m' n = m n := mI_eq J hn (by omega) (by rw [e _ (by omega)]; exact (I.1.2.2.2.1 n hn).1.2.1)
  rw [← em]; exact hi
/-- the program's advance is the reference's step -/
theorem sim_step (S : Sh h) (V : Wa W) (T : CR x y s N m) (I : InvG s N R M B L m H r K C f) (hc : c < 3) {cd : Int32} (A : StA s c cd s1) {N' R' M' B' : Nat} {L' m' H' r' : Nat → Nat} {K' C' : Nat → Nat → Nat} {f' : Nat → Nat} (J : InvG s1 N' R' M' B' L' m' H' r' K' C' f') {v2 v3 v4 : Value} : ∃ x' y', zv 5 80 0 [.ref W, .int (nI c), v2, v3, v4] [] (zC h W x y) = some (some (.int cd), zC h W x' y') ∧ CR x' y' (stF s s1 c cd) N' m' := by
  cases hmv : msF s c with
  | false =>
    obtain ⟨rfl, e2⟩ := ms_0 I hc hmv A
    obtain ⟨k0, k1, -, -⟩ := T.2.1 c hc
    have eN : x 1 0 = nI N := by rw [T.1.1.1]; exact I.1.1.1
    refine ⟨x, y, ?_, ?_⟩
    · by_cases hu : ¬ s (315 + 24 * c) = 0 ∧ ¬ s (315 + 24 * c) = 5
      · obtain ⟨a, ha, ea⟩ := I.at hc (by unfold onB; exact decide_eq_true hu)
        exact adv_no S V hc eN I.1.1.2.2 (n := a) (fun _ => ⟨by rw [k1 hu.1 3 (by decide) (by decide)]; exact ea, ha⟩) (by rw [T.mv I hc (fun _ => ⟨ea, ha⟩)]; exact hmv)
      · exact adv_no S V hc eN I.1.1.2.2 (n := 0) (fun q => absurd (by rw [← k0]; exact q) hu) (by rw [T.mv I hc (fun q => absurd q hu)]; exact hmv)
    · unfold stF
      rw [if_neg (by decide), e2]
      exact T.cg I J (fun k _ => by rw [e2])
  | true =>
    rcases A with ⟨t1, D⟩ | ⟨t1, t2, D⟩ | ⟨t1, t2, D⟩ | ⟨t1, D⟩ | ⟨t1, t2, D⟩ | ⟨t1, t2, D⟩ | ⟨t1, t2, t3⟩
    · obtain ⟨x', y', e, Q⟩ := sim_1 S V T I hc t1 hmv D (v2 := v2) (v3 := v3) (v4 := v4)
      exact ⟨x', y', e, Q.cg I J (std_o D)⟩
    · exact sim_2P S V T I hc t1 t2 hmv D J
    · exact sim_2T S V T I hc t1 t2 hmv D J
    · by_cases h7 : cd = 7
      · subst h7
        exact sim_3N S V T I hc t1 hmv D J
      · obtain ⟨x', y', e, Q⟩ := sim_3 S V T I hc t1 hmv D h7 (v2 := v2) (v3 := v3) (v4 := v4)
        exact ⟨x', y', e, Q.cg I J (sto_o D h7)⟩
    · exact sim_4X S V T I hc t1 t2 hmv D J
    · exact sim_4Y S V T I hc t1 t2 hmv D J
    · have : msF s c = false := by
        unfold msF onB
        rw [decide_eq_false (fun q => by rcases t1 with w | w; exact q.1 w; exact q.2 w)]; rfl
      rw [this] at hmv
      exact absurd hmv (by decide)
end R31O
