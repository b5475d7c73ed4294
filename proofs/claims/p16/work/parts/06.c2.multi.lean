/-! new int[N][M], over the machine itself: the row of rows with i of its places filled -/
def zm_o (cA : ClassId) (N q i : Nat) : Cell := arrV cA N (fun j => if j < i then .ref (q + 1 + j) else .null)
def zm_r (cc : ClassId) (M : Nat) : Cell := arrV cc M (fun _ => .int 0)
theorem zm_o_step (cA : ClassId) (N q i : Nat) : (zm_o cA N q i).setSlot i (.ref (q + 1 + i)) = zm_o cA N q (i + 1) := by
  unfold zm_o
  rw [arrV_store]
  refine congrArg (arrV cA N) (funext fun j => ?_)
  unfold updV
  by_cases e : j = i
  · subst e
    rw [if_pos rfl, if_pos (Nat.lt_succ_self j)]
  · rw [if_neg e]
    by_cases h : j < i
    · show (if j < i then _ else _) = _
      rw [if_pos h, if_pos (by omega)]
    · show (if j < i then _ else _) = _
      rw [if_neg h, if_neg (by omega)]
def zm_F (T : State) (cA cc : ClassId) (N M : Nat) : Nat → State
  | 0 => T.pushCell (zm_o cA N T.heap.size 0)
  | i + 1 => ((zm_F T cA cc N M i).pushCell (zm_r cc M)).setCell T.heap.size (zm_o cA N T.heap.size (i + 1))
/-- what stands in its heap, its tables, its count of slots -/
theorem zm_F_facts (T : State) (cA cc : ClassId) (N M : Nat) : ∀ i, (zm_F T cA cc N M i).heap.size = T.heap.size + 1 + i ∧ (zm_F T cA cc N M i).heap[T.heap.size]? = some (zm_o cA N T.heap.size i) ∧ (zm_F T cA cc N M i).vm = T.vm ∧ (zm_F T cA cc N M i).slotsUsed = T.slotsUsed + N + i * M ∧
    (∀ q, q < T.heap.size → (zm_F T cA cc N M i).heap[q]? = T.heap[q]?) ∧ ∀ j, j < i → (zm_F T cA cc N M i).heap[T.heap.size + 1 + j]? = some (zm_r cc M) := by
  intro i
  induction i with
  | zero =>
    refine ⟨by simp [zm_F], by simp [zm_F], rfl, ?_, fun q hq => State.heap_pushCell_of_lt _ _ hq, fun j h => absurd h (Nat.not_lt_zero _)⟩
    simp [zm_F, zm_o, arrV]
  | succ i ih =>
    obtain ⟨a1, a2, a3, a4, a5, a6⟩ := ih
    have hlt : T.heap.size < (zm_F T cA cc N M i).heap.size := by omega
    have hb : ((zm_F T cA cc N M i).pushCell (zm_r cc M)).heap[T.heap.size]? = some (zm_o cA N T.heap.size i) := by rw [State.heap_pushCell_of_lt (h := hlt)]; exact a2
    refine ⟨?_, State.heap_setCell_self hb, by simp [zm_F, a3], ?_, fun q hq => ?_, fun j hj => ?_⟩
    · simp [zm_F, State.setCell, a1]; omega
    · simp [zm_F, a4, zm_r, arrV, Nat.succ_mul]; omega
    · show (((zm_F T cA cc N M i).pushCell (zm_r cc M)).setCell T.heap.size _).heap[q]? = _
      have hq2 : q < (zm_F T cA cc N M i).heap.size := by rw [a1]; omega
      rw [State.heap_setCell_other (Nat.ne_of_gt hq), State.heap_pushCell_of_lt (h := hq2)]
      exact a5 q hq
    · show (((zm_F T cA cc N M i).pushCell (zm_r cc M)).setCell T.heap.size _).heap[T.heap.size + 1 + j]? = _
      rw [State.heap_setCell_other (show T.heap.size ≠ T.heap.size + 1 + j by omega)]
      by_cases e : j = i
      · subst e
        rw [← a1]
        exact State.heap_pushCell_size _ _
      · have hq2 : T.heap.size + 1 + j < (zm_F T cA cc N M i).heap.size := by rw [a1]; omega
        rw [State.heap_pushCell_of_lt (h := hq2)]
        exact a6 j (by omega)
theorem zm_F_top (T : State) (f : JFrame) (cA cc : ClassId) (N M : Nat) : ∀ i, zm_F (T.setTop f) cA cc N M i = (zm_F T cA cc N M i).setTop f
  | 0 => rfl
  | i + 1 => by simp only [zm_F, zm_F_top T f cA cc N M i, State.heap_setTop, State.pushCell_setTop, State.setCell_setTop]
section ZMW
variable {E : CtlPost} {e : Env} {d : Bool} {acts : List Action} {s : State}
theorem zm_new {c comp : ClassId} {k : Class} {type : FieldType} {len : Nat} {init : Value} (hk : s.vm.classes[c]? = some k) (hkind : k.kind = .array comp type)
    (hlimit : ¬ len > e.platform.arrayLengthLimit) (hheap : ¬ len * componentBytes type > e.platform.maxHeapBytes) (hfit : fits type init = true) (hdef : init.isDefault = true) {Q : Addr → Pre}
    (h1 : s.heap.size < e.platform.maxCells) (h2 : s.slotsUsed + len ≤ e.platform.maxSlots) (hq : Q s.heap.size d acts (s.pushCell (arrV c len (fun _ => init)))) : wp (Jvm.newArray c len init) Q E e d acts s := by
  have hall : ((Array.replicate len init).all (·.isDefault)) = true := by
    rw [Array.all_replicate]; split <;> simp [hdef]
  have hda : allocActs (Array.replicate len init) s.heap.size acts = acts := by
    unfold allocActs; rw [if_pos hall]
  simp only [Jvm.newArray, Jvm.arrayFits, wp_bind', W.ask, W.ite, hlimit, if_false, wp_pure', W.theClass, hk, hkind, hheap, W.alloc, W.stop, Option.some.injEq, exists_eq_left', Array.size_replicate, hda]
  rw [if_neg (by omega)]
  refine ⟨h1, h2, fun i v hv => ?_, by rw [arrV_new]; exact hq⟩
  simp only [Array.getElem?_replicate] at hv
  split at hv
  · cases hv; simp [State.fitsSlot, State.slotType?, hk, hkind, hfit]
  · cases hv
theorem zm_make {cA cc ci : ClassId} {kA kC : Class} {n m : Int32} (hkA : s.vm.classes[cA]? = some kA) (hkindA : kA.kind = .array cc (.array .int)) (hkC : s.vm.classes[cc]? = some kC) (hkindC : kC.kind = .array ci .int) (hn : ¬ n < 0) (hm : ¬ m < 0)
    (hl1 : ¬ n.toNatClampNeg > e.platform.arrayLengthLimit) (hh1 : ¬ n.toNatClampNeg * 4 > e.platform.maxHeapBytes) (hl2 : ¬ m.toNatClampNeg > e.platform.arrayLengthLimit) (hh2 : ¬ m.toNatClampNeg * 4 > e.platform.maxHeapBytes)
    (hc : s.heap.size + 1 + n.toNatClampNeg ≤ e.platform.maxCells) (hs : s.slotsUsed + n.toNatClampNeg + n.toNatClampNeg * m.toNatClampNeg ≤ e.platform.maxSlots)
    {Q : Addr → Pre} (hq : ∀ d' acts', Q s.heap.size d' acts' (zm_F s cA cc n.toNatClampNeg m.toNatClampNeg n.toNatClampNeg)) : wp (multianewarray.make cA [n, m]) Q E e d acts s := by
  have hfind : ([m].find? (· < 0)) = none := by simp [hm]
  rw [multianewarray.make]
  simp only [wp_bind', W.ite, hn, if_false, wp_pure', W.theClass, hkA, hkindA, Option.some.injEq, exists_eq_left']
  refine zm_new hkA hkindA hl1 hh1 rfl rfl (by omega) (by have := Nat.zero_le (n.toNatClampNeg * m.toNatClampNeg); omega) ?_
  simp only [hfind]
  rw [ite_self, wp_bind', Std.Legacy.Range.forIn_eq_forIn_range']
  have hsz : ([:n.toNatClampNeg] : Std.Legacy.Range).size = n.toNatClampNeg := by simp [Std.Legacy.Range.size]
  rw [hsz]
  show wp (forIn (List.range' 0 n.toNatClampNeg 1) PUnit.unit _) _ E e d acts _
  refine wp_forIn_inv (fun rest s' => ∃ i, i ≤ n.toNatClampNeg ∧ rest = List.range' i (n.toNatClampNeg - i) ∧ s' = zm_F s cA cc n.toNatClampNeg m.toNatClampNeg i) _ _ ⟨0, Nat.zero_le _, rfl, ?_⟩ ?_ ?_
  · show s.pushCell _ = s.pushCell _
    refine congrArg s.pushCell ?_
    unfold zm_o
    exact congrArg (arrV cA n.toNatClampNeg) (funext fun j => by rw [if_neg (Nat.not_lt_zero j)])
  · rintro x rest s' d' acts' Q' ⟨i, hi, hl, rfl⟩ hnext
    have hlt : i < n.toNatClampNeg := by
      rcases Nat.lt_or_ge i n.toNatClampNeg with h | h
      · exact h
      · rw [show n.toNatClampNeg - i = 0 from by omega] at hl; simp at hl
    rw [show n.toNatClampNeg - i = (n.toNatClampNeg - (i + 1)) + 1 from by omega, List.range'_succ] at hl
    obtain ⟨hx, hrest⟩ := List.cons.inj hl
    subst hx
    obtain ⟨f1, f2, f3, f4, f5, f6⟩ := zm_F_facts s cA cc n.toNatClampNeg m.toNatClampNeg x
    have hmul : x * m.toNatClampNeg + m.toNatClampNeg ≤ n.toNatClampNeg * m.toNatClampNeg := by
      have := Nat.mul_le_mul_right m.toNatClampNeg (show x + 1 ≤ n.toNatClampNeg from hlt)
      rw [Nat.succ_mul] at this; exact this
    simp only [wp_bind']
    rw [multianewarray.make]
    simp only [wp_bind', W.ite, hm, if_false, wp_pure', W.theClass, f3, hkC, hkindC, Option.some.injEq, exists_eq_left']
    refine zm_new (by rw [f3]; exact hkC) hkindC hl2 hh2 rfl rfl (by rw [f1]; omega) (by rw [f4]; omega) ?_
    have hlt0 : s.heap.size < (zm_F s cA cc n.toNatClampNeg m.toNatClampNeg x).heap.size := by rw [f1]; omega
    simp only [wp_bind', W.writeLoc, wp_pure']
    refine ⟨zm_o cA n.toNatClampNeg s.heap.size x, by rw [State.heap_pushCell_of_lt (h := hlt0)]; exact f2, (fun h => by cases h), (by show x < (arrV _ _ _).slots.size; rw [arrV_size]; exact hlt), ?_, hnext _ _ _ ⟨x + 1, hlt, hrest, ?_⟩⟩
    · show State.fitsSlot _ cA .none x _ = true
      simp [State.fitsSlot, State.slotType?, f3, hkA, hkindA]
      rfl
    · rw [f1, zm_o_step]; rfl
  · rintro s' d' acts' ⟨i, hi, hl, rfl⟩
    have hiN : i = n.toNatClampNeg := by
      rcases Nat.lt_or_ge i n.toNatClampNeg with h | h
      · rw [show n.toNatClampNeg - i = (n.toNatClampNeg - (i + 1)) + 1 from by omega, List.range'_succ] at hl; cases hl
      · omega
    subst hiN
    simp only [wp_pure']
    exact hq _ _
end ZMW
section ZMS
variable {p : Program} {l : Launch} {e : Env} {R : Room} {s : State} {m : MethodId} {args : Array Value} {below : List Frame} {meth : Method} {c : Code} {T : State} {locs : List Loc} {cells slots : Nat}
theorem zm_stand (X : Stand p l e R s m args below meth c T locs cells slots) (cA cc : ClassId) (N M : Nat) : ∀ i, Stand p l e R s m args below meth c (zm_F T cA cc N M i) (locs ++ (List.range i).map fun j => ⟨T.heap.size, j⟩) (cells + 1 + i) (slots + N + i * M) := by
  intro i
  induction i with
  | zero =>
    have h := X.pushed (zm_o cA N T.heap.size 0)
    rw [show (zm_o cA N T.heap.size 0).slots.size = N from arrV_size _ _ _] at h
    simpa [zm_F] using h
  | succ i Xi =>
    obtain ⟨f1, f2, f3, f4, f5, f6⟩ := zm_F_facts T cA cc N M i
    have hlt0 : T.heap.size < (zm_F T cA cc N M i).heap.size := by rw [f1]; omega
    have hcell : ((zm_F T cA cc N M i).pushCell (zm_r cc M)).heap[T.heap.size]? = some (zm_o cA N T.heap.size i) := by rw [State.heap_pushCell_of_lt (h := hlt0)]; exact f2
    have h := (Xi.pushed (zm_r cc M)).stored hcell i (.ref (T.heap.size + 1 + i))
    rw [show (zm_r cc M).slots.size = M from arrV_size _ _ _, zm_o_step] at h
    have e2 : (locs ++ (List.range (i + 1)).map fun j => (⟨T.heap.size, j⟩ : Loc)) = (locs ++ (List.range i).map fun j => (⟨T.heap.size, j⟩ : Loc)) ++ [⟨T.heap.size, i⟩] := by simp [List.range_succ, List.append_assoc]
    have e3 : slots + N + (i + 1) * M = slots + N + i * M + M := by rw [Nat.succ_mul]; omega
    rw [e2, e3]
    exact h
theorem zm_row (X : Stand p l e R s m args below meth c T locs cells slots) (hexec : p.tables.exec = Jvm.exec) {own : String} {index : Nat} (hown : s.vm.findClass own = some m.cls) (hclink : (Cond.classLink own index ("[" ++ (FieldType.array .int).toString)).before args s = true)
    (hover : (Cond.arrayOver (.array .int)).before args s = true) (harr : (Cond.arrayClass .int).before args s = true)
    {g : JFrame} (hg : g.method = m) (hdg : decode c.code g.pc = .ok (.multianewarray index 2, 4)) {n k : Int32} {rest : List Value} (hstack : g.stack = .int k :: .int n :: rest) (hn : ¬ n < 0) (hk : ¬ k < 0) (hb1 : n.toNatClampNeg * 4 ≤ 536870912) (hb2 : k.toNatClampNeg * 4 ≤ 536870912)
    (hcells : cells + (1 + n.toNatClampNeg) ≤ R.cells) (hslots : slots + (n.toNatClampNeg + n.toNatClampNeg * k.toNatClampNeg) ≤ R.slots) :
    ∃ (vm₁ : Vm) (cA cc : ClassId), s.vm.findClass ("[" ++ (FieldType.array .int).toString) = some cA ∧ s.vm.findClass (FieldType.array .int).toString = some cc ∧
      Stand p l e R s m args below meth c (zm_F (T.setVm vm₁) cA cc n.toNatClampNeg k.toNatClampNeg n.toNatClampNeg) (locs ++ (List.range n.toNatClampNeg).map fun j => ⟨T.heap.size, j⟩) (cells + 1 + n.toNatClampNeg) (slots + n.toNatClampNeg + n.toNatClampNeg * k.toNatClampNeg) ∧
      ∀ target, Steps p.tables e below ((zm_F (T.setVm vm₁) cA cc n.toNatClampNeg k.toNatClampNeg n.toNatClampNeg).setTop { g with pc := g.pc + 4, stack := .ref T.heap.size :: rest }) target → Steps p.tables e below (T.setTop g) target := by
  subst hg
  have hpl : e.platform.magicAccessors = ({} : Platform).magicAccessors := by rw [X.admits.platform]
  obtain ⟨comp, cA, kA, hcomp, -, hkA, hkindA, hnameA⟩ := arrayOverA_spec hover
  obtain ⟨comp', kC, ci, hcomp', hkC, hkindC⟩ := Cond.arrayClass_spec harr
  have ecomp : comp' = comp := Option.some.inj (hcomp'.symm.trans hcomp)
  subst ecomp
  obtain ⟨c0, hfc0, hcl⟩ := Cond.classLink_spec hown hclink e.platform hpl
  cases hnameA.symm.trans hfc0
  obtain ⟨hg₁, hwarm₁, hready₁⟩ := State.classEntry (e := e) X.warmed hcl
  generalize T.vm.noted g.method.cls index (.cls cA) = vm₁ at hg₁ hwarm₁ hready₁
  have hal : s.vm.Alike vm₁ := hwarm₁.alike
  obtain ⟨kA₁, hkA₁, heA⟩ := hal.2.2 _ _ hkA
  obtain ⟨kC₁, hkC₁, heC⟩ := hal.2.2 _ _ hkC
  have hkindA₁ : kA₁.kind = .array comp' (.array .int) := by rw [heA]; exact hkindA
  have hkindC₁ : kC₁.kind = .array ci .int := by rw [heC]; exact hkindC
  have X₁ := X.noted hwarm₁
  have XF := zm_stand X₁ cA comp' n.toNatClampNeg k.toNatClampNeg n.toNatClampNeg
  obtain ⟨hr1, hr2⟩ := X.roomAbove hcells hslots
  refine ⟨vm₁, cA, comp', hnameA, hcomp, XF, fun target hrest => ?_⟩
  have hlim : e.platform.arrayLengthLimit ≥ 536870912 := by rw [Launch.admits_arrayLengthLimit X.admits]; omega
  have hmax : e.platform.maxHeapBytes ≥ 536870912 := by rw [Launch.admits_maxHeapBytes X.admits]; omega
  jvm_step X.here [hexec, hdg]
  simp only [multianewarray.sem, wp_bind', W.resolveClassAt_links (State.method?_setTop g X.here.top) hg₁]
  rw [W.popN, if_neg (by decide)]
  refine ⟨g, State.topJava?_setTop' (s := T.setVm vm₁) g X.here.top, [.int n, .int k], rest, rfl, hstack, ?_⟩
  simp only [List.mapM_cons, List.mapM_nil, wp_bind', wp_pure']
  refine zm_make (kA := kA₁) (kC := kC₁) (cc := comp') (ci := ci) hkA₁ hkindA₁ hkC₁ hkindC₁ hn hk (by omega) (by omega) (by omega) (by omega) (by show T.heap.size + 1 + _ ≤ _; omega) (by show T.slotsUsed + _ + _ ≤ _; omega) (fun d' acts' => ?_)
  have eS : ((T.setTop g).setVm vm₁).setTop { g with stack := rest } = (T.setVm vm₁).setTop { g with stack := rest } := by
    show ((T.setVm vm₁).setTop g).setTop _ = _
    rw [State.setTop_setTop]
  rw [eS, zm_F_top]
  simp only [wp_bind', W.mark, W.pushRef, State.topJava?_setTop' _ XF.here.top, Option.some.injEq, exists_eq_left', State.setTop_setTop, State.heap_setTop]
  intro acts
  simp [jvm, XF.here.top]
  exact hrest
end ZMS
