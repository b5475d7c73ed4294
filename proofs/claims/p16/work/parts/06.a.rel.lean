/-! THE READING MACHINE AND THE MACHINE: how the one's memory stands in the other's heap -/
def zr (B : Nat) (b : Nat → Nat) (v : Value) : Value := match v with
  | .ref i => .ref (B + i)
  | .retAddr n => .ref (b n)
  | v => v
theorem zr_cat (B : Nat) (b : Nat → Nat) (v : Value) : (zr B b v).category = v.category := by cases v <;> rfl
theorem zr_isR {B : Nat} {b : Nat → Nat} {v : Value} (h : zi_isR v = true) : ∃ q, zr B b v = .ref q := by
  cases v <;> first | exact ⟨_, rfl⟩ | (exact absurd h (by simp [zi_isR]))
theorem zi_isR_cat {v : Value} (h : zi_isR v = true) : v.category = 1 ∧ ∀ x, v ≠ .double x := by
  cases v <;> first | exact ⟨rfl, fun x q => by cases q⟩ | (exact absurd h (by simp [zi_isR]))
def zi_tys (dA : Nat → ClassId) : List (ClassId × FieldType) := [(dA 0, .int), (dA 1, .boolean), (dA 2, .long), (dA 3, .object "LinkTree$World"), (dA 4, .object "LinkTree$Client"), (dA 5, .array .int)]
theorem zi_tys_at (dA : Nat → ClassId) : ∀ t, t < 6 → (zi_tys dA)[t]? = some (dA t, zi_aty t)
  | 0, _ => rfl | 1, _ => rfl | 2, _ => rfl | 3, _ => rfl | 4, _ => rfl | 5, _ => rfl
  | n + 6, h => absurd h (by omega)
/-- locals -/
def zi_lo (v : Value) (r : List Value) : Bool := (match v with
  | .double _ => false
  | _ => true) && (decide (v.category ≠ 2) || decide (r.head? = some (.double 1)))
def zi_ll (f : Value → Value) : Nat → List Value → List (Nat × Value)
  | _, [] => []
  | i, v :: r => if zi_lo v r = true then (i, f v) :: zi_ll f (i + 1) r else zi_ll f (i + 1) r
theorem zi_ll_mem (f : Value → Value) : ∀ (ls : List Value) (i : Nat) (q : Nat × Value), q ∈ zi_ll f i ls ↔ ∃ n v, q.1 = i + n ∧ ls[n]? = some v ∧ zi_lo v (ls.drop (n + 1)) = true ∧ q.2 = f v := by
  intro ls
  induction ls with
  | nil => intro i q; simp [zi_ll]
  | cons a r ih =>
    intro i q
    have key : q ∈ zi_ll f (i + 1) r ↔ ∃ n v, q.1 = i + (n + 1) ∧ (a :: r)[n + 1]? = some v ∧ zi_lo v ((a :: r).drop (n + 1 + 1)) = true ∧ q.2 = f v := by
      rw [ih (i + 1) q]
      constructor
      · rintro ⟨n, v, h1, h2, h3, h4⟩
        exact ⟨n, v, by omega, by simpa using h2, by simpa using h3, h4⟩
      · rintro ⟨n, v, h1, h2, h3, h4⟩
        exact ⟨n, v, by omega, by simpa using h2, by simpa using h3, h4⟩
    have split : (∃ n v, q.1 = i + n ∧ (a :: r)[n]? = some v ∧ zi_lo v ((a :: r).drop (n + 1)) = true ∧ q.2 = f v) ↔ (q.1 = i ∧ zi_lo a r = true ∧ q.2 = f a) ∨ ∃ n v, q.1 = i + (n + 1) ∧ (a :: r)[n + 1]? = some v ∧ zi_lo v ((a :: r).drop (n + 1 + 1)) = true ∧ q.2 = f v := by
      constructor
      · rintro ⟨n, v, h1, h2, h3, h4⟩
        cases n with
        | zero => simp at h2; subst h2; exact Or.inl ⟨by omega, by simpa using h3, h4⟩
        | succ n => exact Or.inr ⟨n, v, h1, h2, h3, h4⟩
      · rintro (⟨h1, h2, h3⟩ | ⟨n, v, h1, h2, h3, h4⟩)
        · exact ⟨0, a, by omega, rfl, by simpa using h2, h3⟩
        · exact ⟨n + 1, v, h1, h2, h3, h4⟩
    rw [split, ← key]
    rw [show zi_ll f i (a :: r) = if zi_lo a r = true then (i, f a) :: zi_ll f (i + 1) r else zi_ll f (i + 1) r from rfl]
    by_cases hl : zi_lo a r = true
    · rw [if_pos hl, List.mem_cons]
      constructor
      · rintro (h | h)
        · exact Or.inl ⟨by rw [h], hl, by rw [h]⟩
        · exact Or.inr h
      · rintro (⟨h1, h2, h3⟩ | h)
        · exact Or.inl (Prod.ext h1 h3)
        · exact Or.inr h
    · rw [if_neg hl]
      constructor
      · exact fun h => Or.inr h
      · rintro (⟨h1, h2, h3⟩ | h)
        · exact absurd h2 hl
        · exact h
def zi_LR (B : Nat) (b : Nat → Nat) (nL : Nat) (als : Array Slot) (ls : List Value) : Prop := lv_has als nL (zi_ll (zr B b) 0 ls) ∧ ls.length = nL
theorem zi_LR.get {B : Nat} {b : Nat → Nat} {nL : Nat} {als : Array Slot} {ls : List Value} (h : zi_LR B b nL als ls) {n : Nat} {v : Value} (hv : ls[n]? = some v) (hlo : zi_lo v (ls.drop (n + 1)) = true) : als[n]? = some (.val (zr B b v)) :=
  h.1.2.2 (n, zr B b v) ((zi_ll_mem _ _ _ _).mpr ⟨n, v, by simp, hv, hlo, rfl⟩)
theorem zi_lo_1 {v : Value} (r : List Value) (hc : v.category = 1) (hd : ∀ x, v ≠ .double x) : zi_lo v r = true := by
  cases v <;> first | (simp [zi_lo, Value.category]; done) | (exact absurd hc (by simp [Value.category])) | (exact absurd rfl (hd _))
theorem zi_LR.get1 {B : Nat} {b : Nat → Nat} {nL : Nat} {als : Array Slot} {ls : List Value} (h : zi_LR B b nL als ls) {n : Nat} {v : Value} (hv : ls[n]? = some v) (hc : v.category = 1) (hd : ∀ x, v ≠ .double x) : als[n]? = some (.val (zr B b v)) := h.get hv (zi_lo_1 _ hc hd)
theorem zi_LR.get2 {B : Nat} {b : Nat → Nat} {nL : Nat} {als : Array Slot} {ls : List Value} (h : zi_LR B b nL als ls) {n : Nat} {x : Int64} (hv : ls[n]? = some (.long x)) (h1 : ls[n + 1]? = some (.double 1)) : als[n]? = some (.val (.long x)) := by
  refine h.get (v := .long x) hv ?_
  simp [zi_lo, Value.category, List.head?_drop, h1]
theorem zi_lo_cat {v : Value} {r : List Value} (h : zi_lo v r = true) : (∀ x, v ≠ .double x) ∧ (v.category = 2 → r.head? = some (.double 1)) := by
  constructor
  · intro x q
    subst q
    simp [zi_lo] at h
  · intro hc
    simp only [zi_lo, Bool.and_eq_true, Bool.or_eq_true, decide_eq_true_eq] at h
    rcases h.2 with q | q
    · exact absurd hc q
    · exact q
theorem zi_lo_of {v : Value} {r : List Value} (h1 : ∀ x, v ≠ .double x) (h2 : v.category = 2 → r.head? = some (.double 1)) : zi_lo v r = true := by
  cases v <;> first | (exact absurd rfl (h1 _)) | (simp [zi_lo, Value.category]; done) | (simp only [zi_lo, Bool.true_and, Bool.or_eq_true, decide_eq_true_eq]; exact Or.inr (h2 rfl))
/-- storing one slot -/
theorem zi_LR.put1 {B : Nat} {b : Nat → Nat} {nL : Nat} {als als2 : Array Slot} {ls : List Value} {n : Nat} {v : Value} (h : zi_LR B b nL als ls) (hc : v.category = 1) (hd : ∀ x, v ≠ .double x) (h2 : lv_has als2 nL ((n, zr B b v) :: (zi_ll (zr B b) 0 ls).filter (fun q => !(q.1 == n) && !(q.1 + 1 == n && q.2.category == 2)))) : zi_LR B b nL als2 (ls.set n v) := by
  refine ⟨⟨h2.1, h2.2.1, fun q hq => ?_⟩, by rw [List.length_set]; exact h.2⟩
  obtain ⟨j, u, e1, e2, e3, e4⟩ := (zi_ll_mem _ _ _ _).mp hq
  have e1 : q.1 = j := by omega
  obtain ⟨d1, d2⟩ := zi_lo_cat e3
  by_cases hj : j = n
  · subst hj
    have hl : j < ls.length := by
      have := (List.getElem?_eq_some_iff.mp e2).1
      simpa using this
    rw [List.getElem?_set_self hl] at e2
    cases e2
    refine h2.2.2 q (List.mem_cons.mpr (Or.inl ?_))
    exact Prod.ext e1 e4
  · rw [List.getElem?_set_ne (Ne.symm hj)] at e2
    have hcat : u.category = 2 → j + 1 ≠ n ∧ ls[j + 1]? = some (.double 1) := by
      intro h9
      have h8 := d2 h9
      rw [List.head?_drop] at h8
      by_cases hn : j + 1 = n
      · subst hn
        have hl : j + 1 < ls.length := by
          have := (List.getElem?_eq_some_iff.mp h8).1
          simpa using this
        rw [List.getElem?_set_self hl] at h8
        cases h8
        exact absurd rfl (hd 1)
      · rw [List.getElem?_set_ne (Ne.symm hn)] at h8
        exact ⟨hn, h8⟩
    refine h2.2.2 q (List.mem_cons.mpr (Or.inr (List.mem_filter.mpr ⟨(zi_ll_mem _ _ _ _).mpr ⟨j, u, by omega, e2, zi_lo_of d1 (fun h9 => by rw [List.head?_drop]; exact (hcat h9).2), e4⟩, ?_⟩)))
    simp only [Bool.and_eq_true, Bool.not_eq_true', beq_eq_false_iff_ne, ne_eq, Bool.and_eq_false_iff]
    refine ⟨by rw [e1]; exact hj, ?_⟩
    by_cases h9 : u.category = 2
    · exact Or.inl (by rw [e1]; exact (hcat h9).1)
    · exact Or.inr (by rw [e4, zr_cat]; exact h9)
/-- storing a long -/
theorem zi_LR.put2 {B : Nat} {b : Nat → Nat} {nL : Nat} {als als2 : Array Slot} {ls : List Value} {n : Nat} {x : Int64} (h : zi_LR B b nL als ls) (hn : n + 1 < ls.length) (h2 : lv_has als2 nL ((n, .long x) :: (zi_ll (zr B b) 0 ls).filter (fun q => !(q.1 == n) && (!(q.1 == n + 1) && !(q.1 + 1 == n && q.2.category == 2))))) : zi_LR B b nL als2 ((ls.set n (.long x)).set (n + 1) (.double 1)) := by
  refine ⟨⟨h2.1, h2.2.1, fun q hq => ?_⟩, by rw [List.length_set, List.length_set]; exact h.2⟩
  obtain ⟨j, u, e1, e2, e3, e4⟩ := (zi_ll_mem _ _ _ _).mp hq
  have e1 : q.1 = j := by omega
  obtain ⟨d1, d2⟩ := zi_lo_cat e3
  by_cases hj1 : j = n + 1
  · subst hj1
    rw [List.getElem?_set_self (by simpa using hn)] at e2
    cases e2
    exact absurd rfl (d1 1)
  · rw [List.getElem?_set_ne (Ne.symm hj1)] at e2
    by_cases hj : j = n
    · subst hj
      rw [List.getElem?_set_self (by omega)] at e2
      cases e2
      refine h2.2.2 q (List.mem_cons.mpr (Or.inl ?_))
      exact Prod.ext e1 e4
    · rw [List.getElem?_set_ne (Ne.symm hj)] at e2
      have hcat : u.category = 2 → j + 1 ≠ n ∧ ls[j + 1]? = some (.double 1) := by
        intro h9
        have h8 := d2 h9
        rw [List.head?_drop, List.getElem?_set_ne (by omega)] at h8
        by_cases hn9 : j + 1 = n
        · subst hn9
          rw [List.getElem?_set_self (by omega)] at h8
          cases h8
        · rw [List.getElem?_set_ne (Ne.symm hn9)] at h8
          exact ⟨hn9, h8⟩
      refine h2.2.2 q (List.mem_cons.mpr (Or.inr (List.mem_filter.mpr ⟨(zi_ll_mem _ _ _ _).mpr ⟨j, u, by omega, e2, zi_lo_of d1 (fun h9 => by rw [List.head?_drop]; exact (hcat h9).2), e4⟩, ?_⟩)))
      simp only [Bool.and_eq_true, Bool.not_eq_true', beq_eq_false_iff_ne, ne_eq, Bool.and_eq_false_iff]
      refine ⟨by rw [e1]; exact hj, by rw [e1]; exact hj1, ?_⟩
      by_cases h9 : u.category = 2
      · exact Or.inl (by rw [e1]; exact (hcat h9).1)
      · exact Or.inr (by rw [e4, zr_cat]; exact h9)
/-- the locals at a method's entry -/
theorem zi_args_mem (B : Nat) (b : Nat → Nat) : ∀ (as : List Value) (i n : Nat) (v : Value) (r : List Value), (∀ a ∈ r, ∃ x, a = Value.double x) → (zi_ex as ++ r)[n]? = some v → zi_lo v ((zi_ex as ++ r).drop (n + 1)) = true → (i + n, zr B b v) ∈ lv_args i (as.map (zr B b)) := by
  intro as
  induction as with
  | nil =>
    intro i n v r hr h1 h2
    simp only [zi_ex, List.flatMap_nil, List.nil_append] at h1
    obtain ⟨x, hx⟩ := hr v (List.mem_of_getElem? h1)
    exact absurd hx ((zi_lo_cat h2).1 x)
  | cons a as ih =>
    intro i n v r hr h1 h2
    have hz : zi_ex (a :: as) = (if a.category = 2 then [a, .double 1] else [a]) ++ zi_ex as := by simp [zi_ex]
    rw [hz] at h1 h2
    simp only [List.map_cons, lv_args, zr_cat]
    by_cases hc : a.category = 2
    · rw [if_pos hc] at h1 h2 ⊢
      match n with
      | 0 => simp at h1; subst h1; exact List.mem_cons.mpr (Or.inl (by simp))
      | 1 => simp at h1; subst h1; exact absurd rfl ((zi_lo_cat h2).1 1)
      | n + 2 =>
        refine List.mem_cons.mpr (Or.inr ?_)
        have := ih (i + 2) n v r hr (by simpa using h1) (by simpa using h2)
        rw [show i + (n + 2) = i + 2 + n by omega]
        exact this
    · rw [if_neg hc] at h1 h2 ⊢
      match n with
      | 0 => simp at h1; subst h1; exact List.mem_cons.mpr (Or.inl (by simp))
      | n + 1 =>
        refine List.mem_cons.mpr (Or.inr ?_)
        have := ih (i + 1) n v r hr (by simpa using h1) (by simpa using h2)
        rw [show i + (n + 1) = i + 1 + n by omega]
        exact this
theorem zi_ex_len (B : Nat) (b : Nat → Nat) : ∀ as : List Value, (lg_sl (as.map (zr B b))).length = (zi_ex as).length
  | [] => rfl
  | a :: as => by
    have h := zi_ex_len B b as
    simp only [lg_sl, zi_ex, List.map_cons, List.flatMap_cons, List.length_append, zr_cat] at h ⊢
    rw [h]
    by_cases hc : a.category = 2
    · rw [if_pos hc, if_pos hc]; rfl
    · rw [if_neg hc, if_neg hc]; rfl
theorem zi_LR.entry {B : Nat} {b : Nat → Nat} {nL : Nat} {as : List Value} (hl : (zi_ex as).length ≤ nL) : zi_LR B b nL ((lg_sl (as.map (zr B b)) ++ List.replicate (nL - (lg_sl (as.map (zr B b))).length) Slot.unset).toArray) (zi_ex as ++ List.replicate (nL - (zi_ex as).length) (.double 0)) := by
  have h := lv_entry (as.map (zr B b)) (n := nL) (by rw [zi_ex_len]; exact hl)
  refine ⟨⟨h.1, h.2.1, fun q hq => h.2.2 q ?_⟩, by simp; omega⟩
  obtain ⟨n, v, e1, e2, e3, e4⟩ := (zi_ll_mem _ _ _ _).mp hq
  have := zi_args_mem B b as 0 n v _ (fun a ha => ⟨0, (List.mem_replicate.mp ha).2⟩) e2 e3
  rw [show q = (0 + n, zr B b v) from Prod.ext e1 e4]
  exact this
/-- classes -/
theorem zi_c9 {P : Nat → Prop} (h0 : P 0) (h1 : P 1) (h2 : P 2) (h3 : P 3) (h4 : P 4) (h5 : P 5) (h6 : P 6) (h7 : P 7) (h8 : P 8) : ∀ c, c < 9 → P c
  | 0, _ => h0 | 1, _ => h1 | 2, _ => h2 | 3, _ => h3 | 4, _ => h4 | 5, _ => h5 | 6, _ => h6 | 7, _ => h7 | 8, _ => h8
  | n + 9, h => absurd h (by omega)
theorem zi_vw : ∀ c, c < 9 → vwCl[c]? = some (zi_own c, zi_T c, zi_Nf c) := zi_c9 rfl rfl rfl rfl rfl rfl rfl rfl rfl
theorem zi_inw : ∀ c, c < 9 → ∀ w ∈ u_ws (zi_own c) (zi_T c) (zi_Nf c), w ∈ lw_tbl := zi_c9 (by decide +kernel) (by decide +kernel) (by decide +kernel) (by decide +kernel) (by decide +kernel) (by decide +kernel) (by decide +kernel) (by decide +kernel) (by decide +kernel)
theorem zi_tyok : ∀ c, c < 9 → ∀ k, k < zi_Nf c → parseFieldDescriptor (zi_T c k).2.2.1 = some (zi_ty c k) := zi_c9 tyX0_ok tyX1_ok tyX2_ok tyX3_ok tyX4_ok tyX5_ok tyX6_ok tyX7_ok tyX8_ok
theorem zi_nmok : ∀ c, c < 9 → ∀ a, a < zi_Nf c → ∀ b, b < zi_Nf c → a ≠ b → (zi_T c a).2.1 ≠ (zi_T c b).2.1 := zi_c9 nmX0 nmX1 nmX2 nmX3 nmX4 nmX5 nmX6 nmX7 nmX8
def zi_tok (t : Nat) (ty : FieldType) : Bool := match t, ty with
  | 0, .int => true
  | 1, .boolean => true
  | 2, .long => true
  | 3, .object _ => true
  | 3, .array _ => true
  | _, _ => false
theorem zi_tgok : ∀ c, c < 9 → ∀ k, k < zi_Nf c → zi_tok (zi_tg c k) (zi_ty c k) = true := by decide +kernel
/-- the words that every later state keeps -/
def zi_gt : List Jvm.Cond := lw_tbl.filter goodWord
theorem zi_goodIn {y : MethodName} {code : ByteArray} {maxL : Nat} {ret : Option FieldType} (h : Cond.code y code maxL ret ∈ zi_gt) : GoodIn zi_gt (Cond.code y code maxL ret :: zi_gt) := by
  have g : GoodIn zi_gt zi_gt := fun w hw => ⟨hw, good_of_word (List.mem_filter.mp hw).2⟩
  intro w hw
  rcases List.mem_cons.mp hw with rfl | hw
  · exact g _ h
  · exact g _ hw
theorem zi_wd_mem {p : Nat} {w : Jvm.Cond} (h : zi_wd p w = true) : w ∈ lw_tbl := List.mem_of_getElem? (of_decide_eq_true h)
theorem zi_wd_gt {p : Nat} {w : Jvm.Cond} (h : zi_wd p w = true) (hg : goodWord w = true) : w ∈ zi_gt := List.mem_filter.mpr ⟨zi_wd_mem h, hg⟩
/-- the default of a cell of a kind -/
def zi_dv (t : Nat) : Value := match t with
  | 0 => .int 0
  | 1 => .int 0
  | 2 => .long 0
  | _ => .null
theorem zi_dflt {t : Nat} {ty : FieldType} (h : zi_tok t ty = true) : defaultValue ty = zi_dv t := by
  unfold zi_tok at h
  split at h <;> first | rfl | (cases h; done)
theorem zi_wr_fits {h h2 : zi_Hp} {t a k B : Nat} {b : Nat → Nat} {v : Value} {ty : FieldType} (hw : zi_wr h t a k v = some h2) (ht : zi_tok t ty = true) : narrow ty (zr B b v) = zr B b v ∧ fits ty (zr B b v) = true := by
  unfold zi_wr at hw
  split at hw
  · unfold zi_tok at ht; split at ht <;> first | exact ⟨rfl, rfl⟩ | (cases ht; done) | (exfalso; omega)
  · rename_i x
    have hx : x = 0 ∨ x = 1 := by
      by_cases h0 : x = 0
      · exact Or.inl h0
      · rw [if_neg h0] at hw
        by_cases h1 : x = 1
        · exact Or.inr h1
        · rw [if_neg h1] at hw; cases hw
    unfold zi_tok at ht
    split at ht <;> first | (cases ht; done) | (exfalso; omega) | (rcases hx with rfl | rfl <;> exact ⟨rfl, rfl⟩)
  · unfold zi_tok at ht; split at ht <;> first | exact ⟨rfl, rfl⟩ | (cases ht; done) | (exfalso; omega)
  · unfold zi_tok at ht; split at ht <;> first | exact ⟨rfl, rfl⟩ | (cases ht; done) | (exfalso; omega)
  · cases hw
