/-! CLASS AND REFERENCE: the end of a step that HOLDS: all notice -/
section R31L
variable {h : zi_Hp} {W : Nat} {x x0 x1 : Nat → Nat → Int32} {y y1 : Nat → Nat → Bool} {s s1 t : Nat → Int32} {N R M B c n k : Nat} {L m H r : Nat → Nat} {K C : Nat → Nat → Nat} {f : Nat → Nat}
def NB (x : Nat → Nat → Int32) (y : Nat → Nat → Bool) (s : Nat → Int32) (N : Nat) (m : Nat → Nat) : Prop := CN x y s N m ∧ ∀ d, d < 3 → KR x y s d
theorem NB.w (P : NB x y s N m) (hN : N ≤ 24) (hm : ∀ n, n < N → m n ≤ 4) (hk : k < 3) {w : Nat} (w1 : 1 ≤ w) (w7 : w ≤ 7) (v : Int32) : NB (u2 x (10 + 2 * k) w v) y (up s (315 + 24 * k + w) v) N m := by
  refine ⟨P.1.cl hN hm (fun o j ho => u2_n _ _ (by omega)) (fun _ => rfl) (fun j hj => up_n _ _ (by omega)), fun d hd => ?_⟩
  obtain ⟨k0, k1, k2, k3⟩ := P.2 d hd
  unfold KR
  rw [up_n s v (show 315 + 24 * d ≠ 315 + 24 * k + w by omega), u2_n x v (show 10 + 2 * d ≠ 10 + 2 * k ∨ 0 ≠ w by omega), u2_n x v (show 10 + 2 * d ≠ 10 + 2 * k ∨ 8 ≠ w by omega), u2_n x v (show 10 + 2 * d ≠ 10 + 2 * k ∨ 9 ≠ w by omega), u2_n x v (show 10 + 2 * d ≠ 10 + 2 * k ∨ 10 ≠ w by omega), up_n s v (show 315 + 24 * d + 8 ≠ 315 + 24 * k + w by omega), up_n s v (show 315 + 24 * d + 9 ≠ 315 + 24 * k + w by omega), up_n s v (show 315 + 24 * d + 10 ≠ 315 + 24 * k + w by omega), up_n s v (show 315 + 24 * d + 11 ≠ 315 + 24 * k + w by omega)]
  refine ⟨k0, fun q u u1 u7 => ?_, k2, fun q1 q2 l hl => ?_⟩
  · by_cases e : d = k ∧ u = w
    · obtain ⟨rfl, rfl⟩ := e
      rw [u2_s, up_s]
    · rw [u2_n _ _ (by omega), up_n _ _ (by omega)]; exact k1 q u u1 u7
  · rw [u2_n _ _ (by omega), up_n _ _ (by omega)]; exact k3 q1 q2 l hl
theorem NB.td (P : NB x y s N m) (hN : N ≤ 24) (hm : ∀ n, n < N → m n ≤ 4) (hc : c < 3) (hs : ¬ s (315 + 24 * c) = 0) {cd : Int32} : NB (tdK x c cd) y (tdF s c cd) N m := by
  have e6 := (P.2 c hc).2.1 hs 6 (by decide) (by decide)
  have e7 := (P.2 c hc).2.1 hs 7 (by decide) (by decide)
  have q := P.w hN hm hc (w := 6) (by decide) (by decide) (x (10 + 2 * c) 6 + 1)
  unfold tdK tdF
  by_cases h1 : cd = 1
  · rw [if_pos h1, if_pos h1, ← e6, ← e7]
    exact q.w hN hm hc (by decide) (by decide) _
  · rw [if_neg h1, if_neg h1, ← e6, Int32.add_zero, up_id (up s (315 + 24 * c + 6) (x (10 + 2 * c) 6 + 1)) (315 + 24 * c + 7) (by rw [uc_cc _ _ (by decide)])]
    exact q
theorem bit_b (b : Bool) : (1 : Int32) <<< (zi_bI b &&& 31) = if b = true then 2 else 1 := by cases b <;> decide
theorem se_n {on : Bool} {j : Nat} (hj : j ≠ 315 + 24 * k + 5) : seF on k t j = t j := by
  unfold seF
  cases on with
  | true => rw [if_pos rfl, up_n _ _ hj]
  | false => rw [if_neg (by decide)]
theorem se_5 {on : Bool} (ho : on = true) : seF on k t (315 + 24 * k + 5) = t (315 + 24 * k + 5) ||| (1 <<< (zi_bI (thA t (t (315 + 24 * k + 2))) &&& 31)) := by
  unfold seF
  rw [if_pos ho, up_s]
theorem nt_1 (S : Sh h) (V : Wa W) (P : NB x y t N m) (J : InvG s1 N R M B L m H r K C f) (et : ∀ j, j < 315 → t j = s1 j) (hk : k < 3) (hc : c < 3) {on : Bool} (hon : on = true ↔ ((¬ t (315 + 24 * k) = 0 ∧ ¬ t (315 + 24 * k) = 5) ∨ k = c)) (hc0 : ¬ t (315 + 24 * c) = 0) : ∃ x', zv 3 81 2 [.ref W, .int (nI c), .int (nI k)] [] (zC h W x y) = zv 3 81 2 [.ref W, .int (nI c), .int (nI (k + 1))] [] (zC h W x' y) ∧ NB x' y (seF on k t) N m := by
  obtain ⟨⟨a1, a2, a3⟩, -, ⟨d1, d2, d3⟩, G, -⟩ := id J.1
  have hm : ∀ n, n < N → m n ≤ 4 := fun n hn => by have := (G n hn).2.2.2.2.2.2.2.1; omega
  have eN : x 1 0 = nI N := by rw [P.1.1.1, et _ (by decide)]; exact a1
  obtain ⟨b, e, hb⟩ := na_t S V hk (y := y) eN a3 (M := m) (fun n hn => ⟨by rw [(P.1.2 n hn).1.2.1, et _ (by omega)]; exact (G n hn).1.2.1, by have := hm n hn; omega⟩) hc
  obtain ⟨k0, k1, -, -⟩ := P.2 k hk
  have Q : CN x y s1 N m := P.1.cl a3 hm (fun _ _ _ => rfl) (fun _ => rfl) (fun j hj => (et j hj).symm)
  by_cases ho : (¬ t (315 + 24 * k) = 0 ∧ ¬ t (315 + 24 * k) = 5) ∨ k = c
  · have h0 : ¬ t (315 + 24 * k) = 0 := by
      rcases ho with q | q
      · exact q.1
      · rw [q]; exact hc0
    have hbt : b = thA t (t (315 + 24 * k + 2)) := by
      rw [k1 h0 2 (by decide) (by decide)] at hb
      rw [Q.th J hb, thA_cl J et]
    refine ⟨noK x k b, by rw [e, k0, if_pos ho], ?_⟩
    unfold seF noK
    rw [if_pos (hon.mpr ho), ← hbt, bit_b, ← k1 h0 5 (by decide) (by decide)]
    exact P.w a3 hm hk (by decide) (by decide) _
  · refine ⟨x, by rw [e, k0, if_neg ho], ?_⟩
    unfold seF
    rw [if_neg (fun q => ho (hon.mp q))]
    exact P
theorem sim_h (S : Sh h) (V : Wa W) (hc : c < 3) {cd : Int32} (h0 : 0 < cd) (Z : NB x1 y1 s1 N m) (J : InvG s1 N R M B L m H r K C f) (hon : onB s c = true) (hs : ¬ s1 (315 + 24 * c) = 0) (est : ∀ d, d < 3 → d ≠ c → s1 (315 + 24 * d) = s (315 + 24 * d)) : ∃ x', zv 5 80 128 [.ref W, .int (nI c), .ref (W + (10 + 2 * c)), .int 1, .int cd] [] (zC h W x1 y1) = some (some (.int cd), zC h W x' y1) ∧ CR x' y1 (stF s s1 c cd) N m := by
  obtain ⟨⟨a1, a2, a3⟩, -, ⟨d1, d2, d3⟩, G, -⟩ := id J.1
  have hm : ∀ n, n < N → m n ≤ 4 := fun n hn => by have := (G n hn).2.2.2.2.2.2.2.1; omega
  have hcd : ¬ cd = 0 := fun q => by rw [q] at h0; exact absurd h0 (by decide)
  have P := Z.td a3 hm hc hs (cd := cd)
  obtain ⟨t0, et0⟩ : ∃ t0, t0 = tdF s1 c cd := ⟨_, rfl⟩
  have t0n : ∀ j, (j < 315 ∨ ∃ d, d < 3 ∧ (j = 315 + 24 * d ∨ j = 315 + 24 * d + 2 ∨ j = 315 + 24 * d + 5)) → t0 j = s1 j := fun j hj => by
    rw [et0]; unfold tdF
    have : j ≠ 315 + 24 * c + 7 ∧ j ≠ 315 + 24 * c + 6 := by
      rcases hj with q | ⟨d, hd, q⟩ <;> omega
    rw [up_n _ _ this.1, up_n _ _ this.2]
  rw [← et0] at P
  have ho : ∀ k, k < 3 → ∀ {t : Nat → Int32}, t (315 + 24 * k) = s1 (315 + 24 * k) → (onB s k = true ↔ ((¬ t (315 + 24 * k) = 0 ∧ ¬ t (315 + 24 * k) = 5) ∨ k = c)) := fun k hk {t} e => by
    by_cases q : k = c
    · subst q
      exact ⟨fun _ => Or.inr rfl, fun _ => hon⟩
    · rw [e, est k hk q]
      unfold onB
      rw [decide_eq_true_eq]
      exact ⟨fun w => Or.inl w, fun w => w.resolve_right q⟩
  obtain ⟨xa, ea, Pa⟩ := nt_1 S V P J (fun j hj => t0n j (Or.inl hj)) (k := 0) (by decide) hc (ho 0 (by decide) (t0n _ (Or.inr ⟨0, by decide, Or.inl rfl⟩))) (by rw [t0n _ (Or.inr ⟨c, hc, Or.inl rfl⟩)]; exact hs)
  obtain ⟨ta, eta⟩ : ∃ ta, ta = seF (onB s 0) 0 t0 := ⟨_, rfl⟩
  rw [← eta] at Pa
  have tan : ∀ j, j ≠ 315 + 24 * 0 + 5 → ta j = t0 j := fun j hj => by rw [eta, se_n hj]
  obtain ⟨xb, eb, Pb⟩ := nt_1 S V Pa J (fun j hj => by rw [tan _ (by omega), t0n j (Or.inl hj)]) (k := 1) (by decide) hc (ho 1 (by decide) (by rw [tan _ (by omega), t0n _ (Or.inr ⟨1, by decide, Or.inl rfl⟩)])) (by rw [tan _ (by omega), t0n _ (Or.inr ⟨c, hc, Or.inl rfl⟩)]; exact hs)
  obtain ⟨tb, etb⟩ : ∃ tb, tb = seF (onB s 1) 1 ta := ⟨_, rfl⟩
  rw [← etb] at Pb
  have tbn : ∀ j, j ≠ 315 + 24 * 1 + 5 → tb j = ta j := fun j hj => by rw [etb, se_n hj]
  obtain ⟨xc, ec, Pc⟩ := nt_1 S V Pb J (fun j hj => by rw [tbn _ (by omega), tan _ (by omega), t0n j (Or.inl hj)]) (k := 2) (by decide) hc (ho 2 (by decide) (by rw [tbn _ (by omega), tan _ (by omega), t0n _ (Or.inr ⟨2, by decide, Or.inl rfl⟩)])) (by rw [tbn _ (by omega), tan _ (by omega), t0n _ (Or.inr ⟨c, hc, Or.inl rfl⟩)]; exact hs)
  obtain ⟨tc, etc⟩ : ∃ tc, tc = seF (onB s 2) 2 tb := ⟨_, rfl⟩
  rw [← etc] at Pc
  have tcn : ∀ j, j ≠ 315 + 24 * 2 + 5 → tc j = tb j := fun j hj => by rw [etc, se_n hj]
  have estF : stF s s1 c cd = tc := by unfold stF; rw [if_pos h0, etc, etb, eta, et0]
  refine ⟨xc, ?_, ?_⟩
  · rw [k_end S V hc hcd, b80_159, if_neg (by decide), b80_163 (by first | (simp only [zC_n, zC_k, zC_r, S.n, wk_0 S V, wk_1 S V, wr_0_0 S V, wr_0_1 S V, wk_9 S V, cl_k S V hc, cl_r S V hc, cl_p S V hc, cl_q S V hc, zq_rf]; done) | (simp only [zC_n, zC_r, S.n, wr_0_0 S V, wr_0_1 S V, cl_r S V hc, cl_p S V hc, zq_rf]; have := V.lt; omega)) (by first | (simp only [zC_n, zC_k, zC_r, S.n, wk_0 S V, wk_1 S V, wr_0_0 S V, wr_0_1 S V, wk_9 S V, cl_k S V hc, cl_r S V hc, cl_p S V hc, cl_q S V hc, zq_rf]; done) | (simp only [zC_n, zC_r, S.n, wr_0_0 S V, wr_0_1 S V, cl_r S V hc, cl_p S V hc, zq_rf]; have := V.lt; omega))]
    rw [b81_0, show (Value.int 0) = Value.int (nI 0) from rfl, ← show zC h W (tdK x1 c cd) y1 = _ from rfl, ea, eb, ec, b81_2, if_neg (by decide), b81_40]
    simp only [Option.bind_some, Option.toList_some, Option.toList_none, List.cons_append, List.nil_append]
    rw [b80_168]
  · rw [estF]
    refine ⟨Pc.1, Pc.2, fun d hd hod => ?_⟩
    have ethn : ∀ {u : Nat → Int32}, (∀ j, j < 315 → u j = s1 j) → ∀ key, thA u key = thA s1 key := fun eu key => thA_cl J eu key
    have n0 : ∀ j, j < 315 → t0 j = s1 j := fun j hj => t0n j (Or.inl hj)
    have na : ∀ j, j < 315 → ta j = s1 j := fun j hj => by rw [tan _ (by omega), n0 j hj]
    have nb : ∀ j, j < 315 → tb j = s1 j := fun j hj => by rw [tbn _ (by omega), na j hj]
    have nc : ∀ j, j < 315 → tc j = s1 j := fun j hj => by rw [tcn _ (by omega), nb j hj]
    have hsd : onB s d = true := by
      rw [ho d hd (t := tc) (by rw [tcn _ (by omega), tbn _ (by omega), tan _ (by omega), t0n _ (Or.inr ⟨d, hd, Or.inl rfl⟩)])]
      unfold onB at hod
      exact Or.inl (of_decide_eq_true hod)
    rw [ethn nc]
    have hd3 : d = 0 ∨ d = 1 ∨ d = 2 := by omega
    rcases hd3 with rfl | rfl | rfl
    · rw [tcn (315 + 24 * 0 + 5) (by decide), tbn (315 + 24 * 0 + 5) (by decide), tcn (315 + 24 * 0 + 2) (by decide), tbn (315 + 24 * 0 + 2) (by decide), tan (315 + 24 * 0 + 2) (by decide), eta, se_5 hsd, ethn n0, Int32.or_assoc, Int32.or_self]
    · rw [tcn (315 + 24 * 1 + 5) (by decide), tcn (315 + 24 * 1 + 2) (by decide), tbn (315 + 24 * 1 + 2) (by decide), etb, se_5 hsd, ethn na, Int32.or_assoc, Int32.or_self]
    · rw [tcn (315 + 24 * 2 + 2) (by decide), etc, se_5 hsd, ethn nb, Int32.or_assoc, Int32.or_self]
end R31L
