/-! loops of the reference that copy its state -/
theorem zh_ci_0 (h : zi_Hp) (s sp d dp : Nat) : zh_ci h s sp d dp 0 = h := by
  refine zh_ext rfl rfl (fun _ => rfl) (fun b j => ?_) (fun _ _ => rfl) (fun _ _ => rfl) (fun _ _ => rfl) rfl rfl
  rw [hp_i_ci, if_neg (fun q => by omega)]
theorem zh_ci_s (h : zi_Hp) {s d : Nat} (sp dp n : Nat) (hsd : s ≠ d) : zh_wi (zh_ci h s sp d dp n) d (dp + n) (zh_i (zh_ci h s sp d dp n) s (sp + n)) = zh_ci h s sp d dp (n + 1) := by
  refine zh_ext rfl rfl (fun _ => rfl) (fun b j => ?_) (fun _ _ => rfl) (fun _ _ => rfl) (fun _ _ => rfl) rfl rfl
  rw [hp_i_wi, hp_i_ci, hp_i_ci, hp_i_ci, if_neg (fun q : s = d ∧ _ => hsd q.1)]
  by_cases hb : b = d
  · subst hb
    by_cases h1 : j = dp + n
    · subst h1
      rw [if_pos ⟨rfl, rfl⟩, if_pos ⟨rfl, by omega, by omega⟩, show sp + (dp + n - dp) = sp + n by omega]
    · rw [if_neg (fun q => h1 q.2)]
      by_cases h2 : dp ≤ j ∧ j < dp + n
      · rw [if_pos ⟨rfl, h2⟩, if_pos ⟨rfl, by omega, by omega⟩]
      · rw [if_neg (fun q => h2 q.2), if_neg (fun q => h2 ⟨q.2.1, by omega⟩)]
  · rw [if_neg (fun q => hb q.1), if_neg (fun q => hb q.1), if_neg (fun q => hb q.1)]
theorem nI_ix {a i : Nat} : (387 : Int32) * nI a + nI i = nI (387 * a + i) := by
  show Int32.ofNat 387 * Int32.ofNat a + Int32.ofNat i = Int32.ofNat (387 * a + i)
  rw [Int32.ofNat_add, Int32.ofNat_mul]
/-- saves -/
theorem c_saves {h : zi_Hp} (S : Sh h) {d : Nat} (hd : d < 8) {u : Value} : zv 1 211 0 [.ref 211, .int (nI d), u] [] h = some (none, zh_ci h 212 0 221 (387 * d) 387) := by
  have loop : ∀ m i, i + m = 387 → zv 1 211 2 [.ref 211, .int (nI d), .int (nI i)] [] (zh_ci h 212 0 221 (387 * d) i) = some (none, zh_ci h 212 0 221 (387 * d) 387) := by
    intro m
    induction m with
    | zero =>
      intro i hi
      have : i = 387 := by omega
      subst this
      rw [b211_2, if_neg (show ¬ nI 387 < 387 from fun q => nI_nlt (Nat.le_refl 387) (by decide) q), b211_33]
    | succ m ih =>
      intro i hi
      have S2 : Sh (zh_ci h 212 0 221 (387 * d) i) := S
      have r21 : zh_r (zh_ci h 212 0 221 (387 * d) i) 211 21 = .ref 221 := by rw [S2.r, rx_211_21]
      have r0 : zh_r (zh_ci h 212 0 221 (387 * d) i) 211 0 = .ref 212 := by rw [S2.r, rx_211_0]
      rw [b211_2, if_pos (show nI i < (387 : Int32) from (show nI i < nI 387 from nI_lt (by omega) (by decide))), b211_9 (by rw [S2.n]; decide) (by rw [S2.k, kx_211]) (by rw [r21, zq_rf]) (by rw [r0, zq_rf]) (by rw [r0, zq_rf, S2.n]; decide) (by rw [r0, zq_rf, S2.k, kx_212]; exact zj_n (by omega) (by decide)) (by rw [r0, zq_rf, S2.k, kx_212]) (by rw [r21, zq_rf, S2.n]; decide) (by rw [r21, zq_rf, S2.k, kx_221, nI_ix]; exact zj_n (by omega) (by decide)) (by rw [r21, zq_rf, S2.k, kx_221])]
      rw [r21, r0, zq_rf, zq_rf, nI_ix, nI_clamp (by omega), nI_clamp (by omega), nI_1]
      have e := zh_ci_s h (s := 212) (d := 221) 0 (387 * d) i (by decide)
      rw [Nat.zero_add] at e
      rw [e]
      exact ih (i + 1) (by omega)
  have := loop 387 0 rfl
  rw [zh_ci_0] at this
  rw [b211_0]
  exact this
