/-! loops of the reference that copy its state -/
theorem zh_ci_0 (h : zi_Hp) (s sp d dp : Nat) : zh_ci h s sp d dp 0 = h := by
  refine zh_ext rfl rfl (fun _ => rfl) (fun b j => ?_) (fun _ _ => rfl) (fun _ _ => rfl) (fun _ _ => rfl) rfl rfl
  rw [hp_i_ci, if_neg (fun q => by omega)]
theorem zh_ci_s (h : zi_Hp) {s d : Nat} (sp dp n : Nat) (hsd : s ≠ d) : zh_wi (zh_ci h s sp d dp n) d (dp + n) (zh_i (zh_ci h s sp d dp n) s (sp + n)) = zh_ci h s sp d dp (n + 1) := by
  refine zh_ext rfl rfl (fun _ => rfl) (fun b j => ?_) (fun _ _ => rfl) (fun _ _ => rfl) (fun _ _ => rfl) rfl rfl
  rw [hp_i_wi, hp_i_ci, hp_i_ci, hp_i_ci, if_neg (fun q : s = d ∧ _ => hsd q.1)]
  by_cases hb : b = d
  · subst hb
    by_cases h1 : j = dp + n
    · subst h1
      rw [if_pos ⟨rfl, rfl⟩, if_pos ⟨rfl, by omega, by omega⟩, show sp + (dp + n - dp) = sp + n by omega]
    · rw [if_neg (fun q => h1 q.2)]
      by_cases h2 : dp ≤ j ∧ j < dp + n
      · rw [if_pos ⟨rfl, h2⟩, if_pos ⟨rfl, by omega, by omega⟩]
      · rw [if_neg (fun q => h2 q.2), if_neg (fun q => h2 ⟨q.2.1, by omega⟩)]
  · rw [if_neg (fun q => hb q.1), if_neg (fun q => hb q.1), if_neg (fun q => hb q.1)]
theorem nI_ix {a i : Nat} : (387 : Int32) * nI a + nI i = nI (387 * a + i) := by
  show Int32.ofNat 387 * Int32.ofNat a + Int32.ofNat i = Int32.ofNat (387 * a + i)
  rw [Int32.ofNat_add, Int32.ofNat_mul]
/-- saves -/
theorem c_saves {h : zi_Hp} (S : Sh h) {d : Nat} (hd : d < 8) {u : Value} : zv 1 211 0 [.ref 211, .int (nI d), u] [] h = some (none, zh_ci h 212 0 221 (387 * d) 387) := by
  have loop : ∀ m i, i + m = 387 → zv 1 211 2 [.ref 211, .int (nI d), .int (nI i)] [] (zh_ci h 212 0 221 (387 * d) i) = some (none, zh_ci h 212 0 221 (387 * d) 387) := by
    intro m
    induction m with
    | zero =>
      intro i hi
      have : i = 387 := by omega
      subst this
      rw [b211_2, if_neg (show ¬ nI 387 < 387 from fun q => nI_nlt (Nat.le_refl 387) (by decide) q), b211_33]
    | succ m ih =>
      intro i hi
      have S2 : Sh (zh_ci h 212 0 221 (387 * d) i) := S
      have r21 : zh_r (zh_ci h 212 0 221 (387 * d) i) 211 21 = .ref 221 := by rw [S2.r, rx_211_21]
      have r0 : zh_r (zh_ci h 212 0 221 (387 * d) i) 211 0 = .ref 212 := by rw [S2.r, rx_211_0]
      rw [b211_2, if_pos (show nI i < (387 : Int32) from (show nI i < nI 387 from nI_lt (by omega) (by decide))), b211_9 (by rw [S2.n]; decide) (by rw [S2.k, kx_211]) (by rw [r21, zq_rf]) (by rw [r0, zq_rf]) (by rw [r0, zq_rf, S2.n]; decide) (by rw [r0, zq_rf, S2.k, kx_212]; exact zj_n (by omega) (by decide)) (by rw [r0, zq_rf, S2.k, kx_212]) (by rw [r21, zq_rf, S2.n]; decide) (by rw [r21, zq_rf, S2.k, kx_221, nI_ix]; exact zj_n (by omega) (by decide)) (by rw [r21, zq_rf, S2.k, kx_221])]
      rw [r21, r0, zq_rf, zq_rf, nI_ix, nI_clamp (by omega), nI_clamp (by omega), nI_1]
      have e := zh_ci_s h (s := 212) (d := 221) 0 (387 * d) i (by decide)
      rw [Nat.zero_add] at e
      rw [e]
      exact ih (i + 1) (by omega)
  have := loop 387 0 rfl
  rw [zh_ci_0] at this
  rw [b211_0]
  exact this
/-- restores -/
theorem c_restores {h : zi_Hp} (S : Sh h) {d : Nat} (hd : d < 8) {u : Value} : zv 1 212 0 [.ref 211, .int (nI d), u] [] h = some (none, zh_ci h 221 (387 * d) 212 0 387) := by
  have loop : ∀ m i, i + m = 387 → zv 1 212 2 [.ref 211, .int (nI d), .int (nI i)] [] (zh_ci h 221 (387 * d) 212 0 i) = some (none, zh_ci h 221 (387 * d) 212 0 387) := by
    intro m
    induction m with
    | zero =>
      intro i hi
      have : i = 387 := by omega
      subst this
      rw [b212_2, if_neg (show ¬ nI 387 < 387 from fun q => nI_nlt (Nat.le_refl 387) (by decide) q), b212_33]
    | succ m ih =>
      intro i hi
      have S2 : Sh (zh_ci h 221 (387 * d) 212 0 i) := S
      have r21 : zh_r (zh_ci h 221 (387 * d) 212 0 i) 211 21 = .ref 221 := by rw [S2.r, rx_211_21]
      have r0 : zh_r (zh_ci h 221 (387 * d) 212 0 i) 211 0 = .ref 212 := by rw [S2.r, rx_211_0]
      rw [b212_2, if_pos (show nI i < (387 : Int32) from (show nI i < nI 387 from nI_lt (by omega) (by decide))), b212_9 (by rw [S2.n]; decide) (by rw [S2.k, kx_211]) (by rw [r0, zq_rf]) (by rw [r21, zq_rf]) (by rw [r21, zq_rf, S2.n]; decide) (by rw [r21, zq_rf, S2.k, kx_221, nI_ix]; exact zj_n (by omega) (by decide)) (by rw [r21, zq_rf, S2.k, kx_221]) (by rw [r0, zq_rf, S2.n]; decide) (by rw [r0, zq_rf, S2.k, kx_212]; exact zj_n (by omega) (by decide)) (by rw [r0, zq_rf, S2.k, kx_212])]
      rw [r21, r0, zq_rf, zq_rf, nI_ix, nI_clamp (by omega), nI_clamp (by omega), nI_1]
      have e := zh_ci_s h (s := 221) (d := 212) (387 * d) 0 i (by decide)
      rw [Nat.zero_add] at e
      rw [e]
      exact ih (i + 1) (by omega)
  have := loop 387 0 rfl
  rw [zh_ci_0] at this
  rw [b212_0]
  exact this
/-- the loop of keep -/
theorem c_keepL {h : zi_Hp} (S : Sh h) {d : Nat} (hd : d < 2) {x2 : Int32} : zv 2 232 31 [.ref 211, .int (nI d), .int x2, .int 0] [] h = some (some (.int x2), zh_ci h 212 0 213 (387 * d) 387) := by
  have loop : ∀ m i, i + m = 387 → zv 2 232 31 [.ref 211, .int (nI d), .int x2, .int (nI i)] [] (zh_ci h 212 0 213 (387 * d) i) = some (some (.int x2), zh_ci h 212 0 213 (387 * d) 387) := by
    intro m
    induction m with
    | zero =>
      intro i hi
      have : i = 387 := by omega
      subst this
      rw [b232_31, if_neg (show ¬ nI 387 < 387 from fun q => nI_nlt (Nat.le_refl 387) (by decide) q), b232_62]
    | succ m ih =>
      intro i hi
      have S2 : Sh (zh_ci h 212 0 213 (387 * d) i) := S
      have r1 : zh_r (zh_ci h 212 0 213 (387 * d) i) 211 1 = .ref 213 := by rw [S2.r, rx_211_1]
      have r0 : zh_r (zh_ci h 212 0 213 (387 * d) i) 211 0 = .ref 212 := by rw [S2.r, rx_211_0]
      rw [b232_31, if_pos (show nI i < (387 : Int32) from (show nI i < nI 387 from nI_lt (by omega) (by decide))), b232_38 (by rw [S2.n]; decide) (by rw [S2.k, kx_211]) (by rw [r1, zq_rf]) (by rw [r0, zq_rf]) (by rw [r0, zq_rf, S2.n]; decide) (by rw [r0, zq_rf, S2.k, kx_212]; exact zj_n (by omega) (by decide)) (by rw [r0, zq_rf, S2.k, kx_212]) (by rw [r1, zq_rf, S2.n]; decide) (by rw [r1, zq_rf, S2.k, kx_213, nI_ix]; exact zj_n (by omega) (by decide)) (by rw [r1, zq_rf, S2.k, kx_213])]
      rw [r1, r0, zq_rf, zq_rf, nI_ix, nI_clamp (by omega), nI_clamp (by omega), nI_1]
      have e := zh_ci_s h (s := 212) (d := 213) 0 (387 * d) i (by decide)
      rw [Nat.zero_add] at e
      rw [e]
      exact ih (i + 1) (by omega)
  have := loop 387 0 rfl
  rw [zh_ci_0] at this
  exact this
/-- the loop of back -/
theorem c_backL {h : zi_Hp} (S : Sh h) {d : Nat} (hd : d < 2) : zv 2 233 26 [.ref 211, .int (nI d), .int 0] [] h = some (some (.int (zh_i h 213 (387 * d + 312))), zh_ci h 213 (387 * d) 212 0 387) := by
  have loop : ∀ m i, i + m = 387 → zv 2 233 26 [.ref 211, .int (nI d), .int (nI i)] [] (zh_ci h 213 (387 * d) 212 0 i) = some (some (.int (zh_i h 213 (387 * d + 312))), zh_ci h 213 (387 * d) 212 0 387) := by
    intro m
    induction m with
    | zero =>
      intro i hi
      have : i = 387 := by omega
      subst this
      have S3 : Sh (zh_ci h 213 (387 * d) 212 0 387) := S
      have q0 : zh_r (zh_ci h 213 (387 * d) 212 0 387) 211 0 = .ref 212 := by rw [S3.r, rx_211_0]
      rw [b233_26, if_neg (show ¬ nI 387 < 387 from fun q => nI_nlt (Nat.le_refl 387) (by decide) q), b233_57 (by rw [S3.n]; decide) (by rw [S3.k, kx_211]) (by rw [q0, zq_rf]) (by rw [q0, zq_rf, S3.n]; decide) (by rw [q0, zq_rf, S3.k, kx_212]; decide) (by rw [q0, zq_rf, S3.k, kx_212]), q0, zq_rf, hp_i_ci, if_pos ⟨rfl, by decide, by decide⟩]
    | succ m ih =>
      intro i hi
      have S2 : Sh (zh_ci h 213 (387 * d) 212 0 i) := S
      have r21 : zh_r (zh_ci h 213 (387 * d) 212 0 i) 211 1 = .ref 213 := by rw [S2.r, rx_211_1]
      have r0 : zh_r (zh_ci h 213 (387 * d) 212 0 i) 211 0 = .ref 212 := by rw [S2.r, rx_211_0]
      rw [b233_26, if_pos (show nI i < (387 : Int32) from (show nI i < nI 387 from nI_lt (by omega) (by decide))), b233_33 (by rw [S2.n]; decide) (by rw [S2.k, kx_211]) (by rw [r0, zq_rf]) (by rw [r21, zq_rf]) (by rw [r21, zq_rf, S2.n]; decide) (by rw [r21, zq_rf, S2.k, kx_213, nI_ix]; exact zj_n (by omega) (by decide)) (by rw [r21, zq_rf, S2.k, kx_213]) (by rw [r0, zq_rf, S2.n]; decide) (by rw [r0, zq_rf, S2.k, kx_212]; exact zj_n (by omega) (by decide)) (by rw [r0, zq_rf, S2.k, kx_212])]
      rw [r21, r0, zq_rf, zq_rf, nI_ix, nI_clamp (by omega), nI_clamp (by omega), nI_1]
      have e := zh_ci_s h (s := 213) (d := 212) (387 * d) 0 i (by decide)
      rw [Nat.zero_add] at e
      rw [e]
      exact ih (i + 1) (by omega)
  have := loop 387 0 rfl
  rw [zh_ci_0] at this
  exact this
