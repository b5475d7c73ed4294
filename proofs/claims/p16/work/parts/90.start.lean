/-! THE CLAIM OUT OF A RUN OF THE READING MACHINE -/
theorem zi_Rl0 {D : va_G} {dA : Nat → ClassId} {b : Nat → Nat} {L : Nat} {xs : Nat → Int32} {H0 : Heap} : zi_Rl D dA b L xs H0 (zi_h0 L xs) H0 := ⟨rfl, fun _ _ => rfl, ⟨rfl, rfl⟩, fun a ha => absurd ha (Nat.not_lt_zero a)⟩
theorem zi_w_ic : ∀ c, c < 9 → Cond.instantiable (zi_own c) (zi_Nf c) ∈ lw_tbl := zi_c9 (by decide +kernel) (by decide +kernel) (by decide +kernel) (by decide +kernel) (by decide +kernel) (by decide +kernel) (by decide +kernel) (by decide +kernel) (by decide +kernel)
theorem zi_w_a0 : Cond.arrayClass .int ∈ lw_tbl := by decide +kernel
theorem zi_w_a1 : Cond.arrayClass .boolean ∈ lw_tbl := by decide +kernel
theorem zi_w_a2 : Cond.arrayClass .long ∈ lw_tbl := by decide +kernel
theorem zi_w_a3 : Cond.arrayOver (.object "LinkTree$World") ∈ lw_tbl := by decide +kernel
theorem zi_w_a4 : Cond.arrayOver (.object "LinkTree$Client") ∈ lw_tbl := by decide +kernel
theorem zi_w_a5 : Cond.arrayOver (.array .int) ∈ lw_tbl := by decide +kernel
theorem zi_rcp {args : Array Value} {s : State} {t : FieldType} (h : (Cond.arrayClass t).before args s = true) (ho : ∀ C, t ≠ .object C) : ∃ c : ClassId, ArrOfT s c t ∧ va_RA s c t := by
  obtain ⟨c, k, comp, h1, h2, h3⟩ := Cond.arrayClass_spec h
  refine ⟨c, fun N z => ⟨(fun q hq => by cases hq), k, h2, comp, h3⟩, ?_⟩
  cases t <;> first | exact h1 | exact absurd rfl (ho _)
theorem zi_rco {args : Array Value} {s : State} {C : String} (h : (Cond.arrayOver (.object C)).before args s = true) : ∃ c : ClassId, ArrOfT s c (.object C) ∧ va_RA s c (.object C) := by
  obtain ⟨comp, c, k, h1, h2, h3, h4, h5⟩ := Cond.arrayOver_spec h
  exact ⟨c, fun N z => ⟨(fun q hq => by cases hq), k, h3, comp, h4⟩, k, comp, h3, h4, h1, h5⟩
theorem zi_rca {args : Array Value} {s : State} {t : FieldType} (h : (Cond.arrayOver (.array t)).before args s = true) : ∃ c : ClassId, ArrOfT s c (.array t) ∧ va_RA s c (.array t) := by
  obtain ⟨comp, c, k, h1, h2, h3, h4, h5⟩ := arrayOverA_spec h
  exact ⟨c, fun N z => ⟨(fun q hq => by cases hq), k, h3, comp, h4⟩, h5⟩
/-- the texts that the program names, at the start -/
def zi_b0 (b0 : Nat) (adK : Nat → Nat) : Nat → Nat := fun k => if k = 0 then b0 else adK (k - 1)
set_option maxHeartbeats 4000000 in
theorem zi_sk0 {args : Array Value} {s : State} (hts : ∀ w ∈ lw_tbl, w.before args s = true) (hgv : (Jvm.Cond.and given_1 narrow_1).before args s = true) (b0 : Nat) : ∃ adK : Nat → Nat, zi_SK (zi_b0 b0 adK) s.heap s := by
  have hs := flat_of_before _ hgv
  have hA : ∀ a : Nat, a < s.heap.size → ¬ s.heap.size ≤ a := fun a h1 h2 => by omega
  have c4 : ∀ {P : Nat → Prop}, P 0 → P 1 → P 2 → P 3 → ∀ i, i < 4 → P i := fun {P} p0 p1 p2 p3 i hi => by
    have : i = 0 ∨ i = 1 ∨ i = 2 ∨ i = 3 := by omega
    rcases this with rfl | rfl | rfl | rfl
    · exact p0
    · exact p1
    · exact p2
    · exact p3
  obtain ⟨adK, adV, hS, hev⟩ := vk_Sof (args := args) (s := s) (N := 4) (tm := fun i => .string "LinkTree$Script" (zi_sx (i + 1))) (len := [4, 3, 4, 4]) (byt := [[114, 111, 111, 109], [112, 117, 116], [116, 97, 107, 101], [102, 105, 110, 100]]) (A := fun q => s.heap.size ≤ q)
    (c4 (by decide) (by decide) (by decide) (by decide))
    (c4 (hs _ (by decide +kernel)) (hs _ (by decide +kernel)) (hs _ (by decide +kernel)) (hs _ (by decide +kernel)))
    (c4 (hs _ (by decide +kernel)) (hs _ (by decide +kernel)) (hs _ (by decide +kernel)) (hs _ (by decide +kernel)))
    (c4 (hs _ (by decide +kernel)) (hs _ (by decide +kernel)) (hs _ (by decide +kernel)) (hs _ (by decide +kernel)))
    (c4 (hs _ (by decide +kernel)) (hs _ (by decide +kernel)) (hs _ (by decide +kernel)) (hs _ (by decide +kernel)))
    (c4
      (fun j hj => by
        have hj : j < 4 := hj
        exact c4 (P := fun j => (Cond.eq (.elem (.field (.string "LinkTree$Script" (zi_sx (0 + 1))) "java/lang/String" "value" "[B") (.int (Int32.ofNat j))) (.int ((([[114, 111, 111, 109], [112, 117, 116], [116, 97, 107, 101], [102, 105, 110, 100]] : List (List Int32)).getD 0 []).getD j 0))).before args s = true) (hs _ (by decide +kernel)) (hs _ (by decide +kernel)) (hs _ (by decide +kernel)) (hs _ (by decide +kernel)) j hj)
      (fun j hj => by
        have hj : j < 3 := hj
        have : j = 0 ∨ j = 1 ∨ j = 2 := by omega
        rcases this with rfl | rfl | rfl
        · exact hs _ (by decide +kernel)
        · exact hs _ (by decide +kernel)
        · exact hs _ (by decide +kernel))
      (fun j hj => by
        have hj : j < 4 := hj
        exact c4 (P := fun j => (Cond.eq (.elem (.field (.string "LinkTree$Script" (zi_sx (2 + 1))) "java/lang/String" "value" "[B") (.int (Int32.ofNat j))) (.int ((([[114, 111, 111, 109], [112, 117, 116], [116, 97, 107, 101], [102, 105, 110, 100]] : List (List Int32)).getD 2 []).getD j 0))).before args s = true) (hs _ (by decide +kernel)) (hs _ (by decide +kernel)) (hs _ (by decide +kernel)) (hs _ (by decide +kernel)) j hj)
      (fun j hj => by
        have hj : j < 4 := hj
        exact c4 (P := fun j => (Cond.eq (.elem (.field (.string "LinkTree$Script" (zi_sx (3 + 1))) "java/lang/String" "value" "[B") (.int (Int32.ofNat j))) (.int ((([[114, 111, 111, 109], [112, 117, 116], [116, 97, 107, 101], [102, 105, 110, 100]] : List (List Int32)).getD 3 []).getD j 0))).before args s = true) (hs _ (by decide +kernel)) (hs _ (by decide +kernel)) (hs _ (by decide +kernel)) (hs _ (by decide +kernel)) j hj))
    (fun i j hi hj hij => by
      have h1 : i = 0 ∨ i = 1 ∨ i = 2 ∨ i = 3 := by omega
      have h2 : j = 0 ∨ j = 1 ∨ j = 2 ∨ j = 3 := by omega
      rcases h1 with rfl | rfl | rfl | rfl <;> rcases h2 with rfl | rfl | rfl | rfl <;> first
        | exact absurd rfl hij
        | exact Or.inl (hs _ (by decide +kernel))
        | exact Or.inr (hs _ (by decide +kernel)))
    hA
  refine ⟨adK, fun k => adV (k - 1), fun k h1 h5 => ?_, va_Zof (hts _ (by decide +kernel)) (hts _ (by decide +kernel)) (va_eqi (hs _ (by decide +kernel))) hA, va_Zqof (hts _ (by decide +kernel)) (hts _ (by decide +kernel)) (hs _ (by decide +kernel)) hA⟩
  have : k = 1 ∨ k = 2 ∨ k = 3 ∨ k = 4 := by omega
  rcases this with rfl | rfl | rfl | rfl
  · exact ⟨vk_R.of (hts _ (by decide +kernel)) (hev 0 (by decide)), (hS.1 0 (by decide)).1, (hS.1 0 (by decide)).2.1, (hS.1 0 (by decide)).2.2.1, (hS.1 0 (by decide)).2.2.2⟩
  · exact ⟨vk_R.of (hts _ (by decide +kernel)) (hev 1 (by decide)), (hS.1 1 (by decide)).1, (hS.1 1 (by decide)).2.1, (hS.1 1 (by decide)).2.2.1, (hS.1 1 (by decide)).2.2.2⟩
  · exact ⟨vk_R.of (hts _ (by decide +kernel)) (hev 2 (by decide)), (hS.1 2 (by decide)).1, (hS.1 2 (by decide)).2.1, (hS.1 2 (by decide)).2.2.1, (hS.1 2 (by decide)).2.2.2⟩
  · exact ⟨vk_R.of (hts _ (by decide +kernel)) (hev 3 (by decide)), (hS.1 3 (by decide)).1, (hS.1 3 (by decide)).2.1, (hS.1 3 (by decide)).2.2.1, (hS.1 3 (by decide)).2.2.2⟩
theorem zi_law_M : zi_M[243]? = some zi_m243 := rfl
set_option maxHeartbeats 4000000 in
theorem zi_start {p : Program} {e : Env} {s : State} {m : MethodId} {below : List Frame} {meth : Method} {c : Code} (l : Launch) {b L : Nat} {xs : Nat → Int32} (C0 : lw_At p s m meth c b L xs) {hF : zi_Hp} (hrun : zv 18 243 0 [.retAddr 0, .double 0, .double 0, .double 0] [] (zi_h0 L xs) = some (some (.int 1), hF)) (hn : zh_n hF ≤ 600000) (hs : zh_s hF ≤ 7302249) : W p l e room_1 s m #[Value.ref b] below meth c s.heap [] 0 0 (lw_Z below #[Value.ref b] s) (entryFrame m ([Value.ref b] : List Value).toArray 4) := by
  obtain ⟨hx, hb, hr, hml, hown, hts, hX, hbl, hlocks, hgv⟩ := C0
  have hcl : ∀ c9, ∃ (cC : ClassId) (iS : Nat → Nat), c9 < 9 → u_Kn s (zi_own c9) (zi_T c9) (zi_Nf c9) cC iS := by
    intro c9
    by_cases h9 : c9 < 9
    · obtain ⟨cC, iS, h8⟩ := u_known hts (zi_inw c9 h9) (hts _ (zi_w_ic c9 h9))
      exact ⟨cC, iS, fun _ => h8⟩
    · exact ⟨0, fun _ => 0, fun q => absurd q h9⟩
  obtain ⟨a0, A0⟩ := zi_rcp (hts _ zi_w_a0) (fun C q => by cases q)
  obtain ⟨a1, A1⟩ := zi_rcp (hts _ zi_w_a1) (fun C q => by cases q)
  obtain ⟨a2, A2⟩ := zi_rcp (hts _ zi_w_a2) (fun C q => by cases q)
  obtain ⟨a3, A3⟩ := zi_rco (hts _ zi_w_a3)
  obtain ⟨a4, A4⟩ := zi_rco (hts _ zi_w_a4)
  obtain ⟨a5, A5⟩ := zi_rca (hts _ zi_w_a5)
  let D : va_G := (fun c9 => Classical.choose (hcl c9), fun c9 => Classical.choose (Classical.choose_spec (hcl c9)))
  let dA : Nat → ClassId := fun t => match t with
    | 0 => a0
    | 1 => a1
    | 2 => a2
    | 3 => a3
    | 4 => a4
    | _ => a5
  have hKn : ∀ c9, c9 < 9 → u_Kn s (zi_own c9) (zi_T c9) (zi_Nf c9) (D.1 c9) (D.2 c9) := fun c9 h9 => Classical.choose_spec (Classical.choose_spec (hcl c9)) h9
  have hK : va_K D vwCl (zi_tys dA) s := by
    refine ⟨fun c9 q hq => ?_, fun k9 q hq => ?_⟩
    · have h9 : c9 < 9 := (List.getElem?_eq_some_iff.mp hq).1
      rw [zi_vw c9 h9] at hq
      cases hq
      exact hKn c9 h9
    · have h9 : k9 < 6 := (List.getElem?_eq_some_iff.mp hq).1
      rw [zi_tys_at dA k9 h9] at hq
      cases hq
      match k9, h9 with
      | 0, _ => exact A0
      | 1, _ => exact A1
      | 2, _ => exact A2
      | 3, _ => exact A3
      | 4, _ => exact A4
      | 5, _ => exact A5
  obtain ⟨adK, hSK⟩ := zi_sk0 hts hgv b
  have hKK : zi_K D dA (zi_b0 b adK) L xs s.heap s := ⟨hK, hX, fun own ix y hy => va_Nw.of rfl (hts _ hy), hts _ zi_w_a3, hts _ zi_w_a4, hts _ zi_w_a5, hSK⟩
  obtain ⟨n, hgo⟩ := zv_iff.mp hrun
  rw [lg_entry_eq]
  refine zi_sound n p l e room_1 s m #[Value.ref b] below meth c _ D dA (zi_b0 b adK) L xs s.heap 0 0 18 243 zi_m243 (some (.int 1)) hF zi_law_M ⟨hx, hb, hml, hown, fun w hw => hts w (List.mem_filter.mp hw).1, hKK, fun q => absurd (of_decide_eq_true q) (by decide), by decide, by decide, hbl⟩ (by decide) (by decide) (by show zh_n hF ≤ 0 + 600000; omega) (by show zh_s hF ≤ 0 + 7302249; omega) ?_ _ hgo s.heap _ [] 0 0 zi_Rl0 (zi_LR.entry (as := [.retAddr 0]) (by decide)) (fun _ h => by cases h) rfl rfl
  intro pc i st hd hro H als locs cells slots hRl hlo hn9 hs9
  rcases hro with ⟨rfl, x, hx1, rfl, -⟩ | ⟨rfl, hrt, -⟩ | ⟨rfl, hrt, -⟩
  · cases hx1
    refine va_forget hlo ?_
    refine W.widen (k := 600000) (n := 7302249) (by omega) (by omega) ?_
    exact lw_ret hx hb hr hlocks hd
  · exact absurd hrt (by decide)
  · exact absurd hrt (by decide)
