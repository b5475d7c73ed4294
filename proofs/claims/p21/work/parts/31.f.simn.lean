/-! CLASS AND REFERENCE: a step that changes nodes, but no leaf's keys -/
section R31F
variable {x x1 : Nat → Nat → Int32} {y y1 : Nat → Nat → Bool} {s s1 : Nat → Int32} {N R M B c n : Nat} {L m H r : Nat → Nat} {K C : Nat → Nat → Nat} {f : Nat → Nat}
theorem st_idn (T : CR x y s N m) {N' R' M' B' : Nat} {L' m' H' r' : Nat → Nat} {K' C' : Nat → Nat → Nat} {f' : Nat → Nat} (J : InvG s1 N' R' M' B' L' m' H' r' K' C' f') (hth : ∀ key, thA s1 key = thA s key) (hc : c < 3) {cd : Int32} (h0 : 0 < cd) (e : ∀ k, 315 ≤ k → (k < 315 + 24 * c ∨ 315 + 24 * c + 24 ≤ k) → s1 k = s k) (e2 : s1 (315 + 24 * c + 2) = s (315 + 24 * c + 2)) (e5 : s1 (315 + 24 * c + 5) = s (315 + 24 * c + 5)) : stF s s1 c cd = tdF s1 c cd := by
  have tn : ∀ k, k < 315 → tdF s1 c cd k = s1 k := fun k hk => by
    unfold tdF
    rw [up_n _ _ (by omega), up_n _ _ (by omega)]
  have t2 : ∀ k, k < 3 → tdF s1 c cd (315 + 24 * k + 2) = s (315 + 24 * k + 2) := fun k hk => by
    unfold tdF
    rw [up_n _ _ (by omega), up_n _ _ (by omega)]
    by_cases w : k = c
    · subst w; exact e2
    · exact e _ (by omega) (by omega)
  have t5 : ∀ k, k < 3 → tdF s1 c cd (315 + 24 * k + 5) = s (315 + 24 * k + 5) := fun k hk => by
    unfold tdF
    rw [up_n _ _ (by omega), up_n _ _ (by omega)]
    by_cases w : k = c
    · subst w; exact e5
    · exact e _ (by omega) (by omega)
  have nn : ∀ k, k < 3 → onB s k = true → tdF s1 c cd (315 + 24 * k + 5) ||| (1 <<< (zi_bI (thA (tdF s1 c cd) (tdF s1 c cd (315 + 24 * k + 2))) &&& 31)) = tdF s1 c cd (315 + 24 * k + 5) := fun k hk ho => by
    rw [t2 k hk, t5 k hk, thA_cl J tn, hth]
    exact T.2.2 k hk ho
  have q0 : seF (onB s 0) 0 (tdF s1 c cd) = tdF s1 c cd := se_id (nn 0 (by decide))
  have q1 : seF (onB s 1) 1 (tdF s1 c cd) = tdF s1 c cd := se_id (nn 1 (by decide))
  have q2 : seF (onB s 2) 2 (tdF s1 c cd) = tdF s1 c cd := se_id (nn 2 (by decide))
  unfold stF
  rw [if_pos h0, q0, q1, q2]
/-- the relation behind such a step -/
theorem sim_n (T : CR x y s N m) {N' R' M' B' : Nat} {L' m' H' r' : Nat → Nat} {K' C' : Nat → Nat → Nat} {f' : Nat → Nat} (J : InvG s1 N' R' M' B' L' m' H' r' K' C' f') (hth : ∀ key, thA s1 key = thA s key) (Z : CN x1 y1 s1 N' m') (hc : c < 3) {cd : Int32} (h0 : 0 < cd) (hon : onB s c = true) (e : ∀ k, 315 ≤ k → (k < 315 + 24 * c ∨ 315 + 24 * c + 24 ≤ k) → s1 k = s k) (e2 : s1 (315 + 24 * c + 2) = s (315 + 24 * c + 2)) (e5 : s1 (315 + 24 * c + 5) = s (315 + 24 * c + 5)) (ex : ∀ o j, 10 ≤ o → o ≠ 10 + 2 * c → o ≠ 11 + 2 * c → x1 o j = x o j) (ey : ∀ o j, 10 ≤ o → o ≠ 10 + 2 * c → y1 o j = y o j) (k : KR x1 y1 s1 c) (hs : ¬ s1 (315 + 24 * c) = 0) : CR (tdK x1 c cd) y1 (stF s s1 c cd) N' m' := by
  have hN := J.1.1.2.2
  have hm : ∀ n, n < N' → m' n ≤ 4 := fun n hn => by
    have := (J.1.2.2.2.1 n hn).2.2.2.2.2.2.2.1
    have := J.1.2.2.1.2.2
    omega
  have tx : ∀ o j, o ≠ 10 + 2 * c → tdK x1 c cd o j = x1 o j := fun o j ho => by
    unfold tdK
    split
    · rw [u2_n _ _ (Or.inl ho), u2_n _ _ (Or.inl ho)]
    · rw [u2_n _ _ (Or.inl ho)]
  have tj : ∀ j, j ≠ 6 → j ≠ 7 → tdK x1 c cd (10 + 2 * c) j = x1 (10 + 2 * c) j := fun j h6 h7 => by
    unfold tdK
    split
    · rw [u2_n _ _ (Or.inr h7), u2_n _ _ (Or.inr h6)]
    · rw [u2_n _ _ (Or.inr h6)]
  have t6 : tdK x1 c cd (10 + 2 * c) 6 = x1 (10 + 2 * c) 6 + 1 := by
    unfold tdK
    split
    · rw [u2_n _ _ (Or.inr (by decide)), u2_s]
    · rw [u2_s]
  have t7 : tdK x1 c cd (10 + 2 * c) 7 = x1 (10 + 2 * c) 7 + (if cd = 1 then 1 else 0) := by
    unfold tdK
    by_cases h1 : cd = 1
    · rw [if_pos h1, if_pos h1, u2_s]
    · rw [if_neg h1, if_neg h1, u2_n _ _ (Or.inr (by decide)), Int32.add_zero]
  rw [st_idn T J hth hc h0 e e2 e5]
  have so : ∀ k, k ≠ 315 + 24 * c + 6 → k ≠ 315 + 24 * c + 7 → tdF s1 c cd k = s1 k := fun k h6 h7 => by unfold tdF; rw [up_n _ _ h7, up_n _ _ h6]
  have s6 : tdF s1 c cd (315 + 24 * c + 6) = s1 (315 + 24 * c + 6) + 1 := by unfold tdF; rw [up_n _ _ (by omega), up_s]
  have s7 : tdF s1 c cd (315 + 24 * c + 7) = s1 (315 + 24 * c + 7) + (if cd = 1 then 1 else 0) := by unfold tdF; rw [up_s]
  have sn : ∀ k, k < 315 → tdF s1 c cd k = s1 k := fun k hk => by rw [so _ (by omega) (by omega)]
  refine ⟨Z.cl hN hm (fun o j ho => by rw [tx _ _ (by omega)]) (fun j => rfl) sn, fun d hd => ?_, fun d hd ho => ?_⟩
  · by_cases hdc : d = c
    · subst hdc
      obtain ⟨k0, k1, k2, k3⟩ := k
      have z0 : tdF s1 d cd (315 + 24 * d) = s1 (315 + 24 * d) := so _ (by omega) (by omega)
      unfold KR
      rw [z0]
      refine ⟨by rw [tj 0 (by decide) (by decide)]; exact k0, fun _ w w1 w7 => ?_, fun h34 => ?_, fun h1 h2 l hl => ?_⟩
      · by_cases e6 : w = 6
        · subst e6; rw [t6, s6, k1 hs 6 (by decide) (by decide)]
        · by_cases e7 : w = 7
          · subst e7; rw [t7, s7, k1 hs 7 (by decide) (by decide)]
          · rw [tj w e6 e7, so _ (by omega) (by omega)]; exact k1 hs w w1 w7
      · rw [tj 8 (by decide) (by decide), tj 9 (by decide) (by decide), tj 10 (by decide) (by decide), so _ (by omega) (by omega), so _ (by omega) (by omega), so _ (by omega) (by omega), so _ (by omega) (by omega)]
        exact k2 h34
      · rw [tx _ _ (by omega), so _ (by omega) (by omega)]; exact k3 h1 h2 l hl
    · obtain ⟨k0, k1, k2, k3⟩ := T.2.1 d hd
      have ez : ∀ w, w < 24 → tdF s1 c cd (315 + 24 * d + w) = s (315 + 24 * d + w) := fun w hw => by rw [so _ (by omega) (by omega), e _ (by omega) (by omega)]
      have ez0 : tdF s1 c cd (315 + 24 * d) = s (315 + 24 * d) := ez 0 (by decide)
      have exd : ∀ j, tdK x1 c cd (10 + 2 * d) j = x (10 + 2 * d) j := fun j => by rw [tx _ _ (by omega), ex _ _ (by omega) (by omega) (by omega)]
      have exp : ∀ j, tdK x1 c cd (11 + 2 * d) j = x (11 + 2 * d) j := fun j => by rw [tx _ _ (by omega), ex _ _ (by omega) (by omega) (by omega)]
      unfold KR
      rw [ez0, exd 0, exd 8, exd 9, exd 10, ez 8 (by decide), ez 9 (by decide), ez 10 (by decide), ez 11 (by decide), ey _ _ (by omega) (by omega)]
      exact ⟨k0, fun h1 w w1 w7 => by rw [exd, ez w (by omega)]; exact k1 h1 w w1 w7, k2, fun h1 h2 l hl => by rw [exp, ez (12 + l) (by omega)]; exact k3 h1 h2 l hl⟩
  · have z2 : tdF s1 c cd (315 + 24 * d + 2) = s (315 + 24 * d + 2) := by
      rw [so _ (by omega) (by omega)]
      by_cases w : d = c
      · subst w; exact e2
      · exact e _ (by omega) (by omega)
    have z5 : tdF s1 c cd (315 + 24 * d + 5) = s (315 + 24 * d + 5) := by
      rw [so _ (by omega) (by omega)]
      by_cases w : d = c
      · subst w; exact e5
      · exact e _ (by omega) (by omega)
    rw [z2, z5, thA_cl J sn, hth]
    refine T.2.2 d hd ?_
    by_cases w : d = c
    · subst w; exact hon
    · have z0 : tdF s1 c cd (315 + 24 * d) = s (315 + 24 * d) := by rw [so _ (by omega) (by omega), e _ (by omega) (by omega)]
      unfold onB at ho ⊢
      rw [z0] at ho
      exact ho
end R31F
