/-! ONE INSTRUCTION OF THE READING MACHINE IS ONE OF THE MACHINE -/
def zi_At (p : Program) (l : Launch) (e : Env) (R : Room) (s : State) (m : MethodId) (args : Array Value) (below : List Frame) (meth : Method) (c : Code) (Q : State → Prop) (D : va_G) (dA : Nat → ClassId) (b : Nat → Nat) (L : Nat) (xs : Nat → Int32) (H0 : Heap) (nL n0 s0 : Nat) (cf : zi_Cf) : Prop :=
  ∀ (H : Heap) (als : Array Slot) (locs : List Loc) (cells slots : Nat), zi_Rl D dA b L xs H0 cf.2.2.2 H → zi_LR H0.size b nL als cf.2.1 → (∀ q ∈ locs, H0.size ≤ q.base) → n0 + cells = zh_n cf.2.2.2 → s0 + slots = zh_s cf.2.2.2 →
    W p l e R s m args below meth c H locs cells slots Q (F0 m cf.1 als (cf.2.2.1.map (zr H0.size b)))
/-- what holds in a method's frame -/
def zi_Cx (p : Program) (R : Room) (s : State) (m : MethodId) (args : Array Value) (meth : Method) (c : Code) (D : va_G) (dA : Nat → ClassId) (b : Nat → Nat) (L : Nat) (xs : Nat → Int32) (H0 : Heap) (cc : ByteArray) (nL own : Nat) (ini : Bool) : Prop :=
  p.tables.exec = Jvm.exec ∧ c.code = cc ∧ c.maxLocals = nL ∧ s.vm.findClass (zi_own own) = some m.cls ∧ (∀ w ∈ zi_gt, w.before args s = true) ∧ zi_K D dA b L xs H0 s ∧ (ini = true → meth.name = "<init>") ∧ 5 ≤ R.frames ∧ 320 ≤ R.locals ∧ b 0 < H0.size
theorem zi_locs1 {H0 : Heap} {locs : List Loc} {a k : Nat} (h : ∀ q ∈ locs, H0.size ≤ q.base) : ∀ q ∈ locs ++ [⟨H0.size + a, k⟩], H0.size ≤ q.base := by
  intro q hq
  rcases List.mem_append.mp hq with h1 | h1
  · exact h q h1
  · rw [List.mem_singleton.mp h1]; show H0.size ≤ H0.size + a; omega
theorem zi_cat4 (B : Nat) (b : Nat → Nat) {st : List Value} (h : zi_cs st ≤ 8) : ((st.map (zr B b)).map fun v => v.category).sum ≤ 8 := by
  have e : (st.map (zr B b)).map (fun v => v.category) = st.map Value.category := by
    rw [List.map_map]
    exact List.map_congr_left (fun v _ => zr_cat B b v)
  rw [e]
  exact h
theorem zi_vd_al (h : zi_Hp) (kd len t k : Nat) : zi_vd (zh_al h kd len) t (zh_n h) k = zi_dv t := by
  have key : ∀ {α : Type} (f : Nat → Nat → α) (v : α), zh_z f (zh_n h) v (zh_n h) k = v := fun f v => by rw [zh_z, if_pos rfl]
  match t with
  | 0 => show Value.int (zh_z (zh_i h) (zh_n h) 0 (zh_n h) k) = .int 0; rw [key]
  | 1 => show Value.int (zi_bI (zh_z (zh_b h) (zh_n h) false (zh_n h) k)) = .int 0; rw [key]; rfl
  | 2 => show Value.long (zh_z (zh_l h) (zh_n h) 0 (zh_n h) k) = .long 0; rw [key]
  | n + 3 => show zh_z (zh_r h) (zh_n h) .null (zh_n h) k = .null; rw [key]
theorem zh_k_al (h : zi_Hp) (kd len : Nat) : zh_k (zh_al h kd len) (zh_n h) = (kd, len) := by show (if zh_n h = zh_n h then (kd, len) else zh_k h (zh_n h)) = _; rw [if_pos rfl]
theorem zi_ini : ∀ c, c < 9 → Cond.initialized (zi_own c) ∈ zi_gt := zi_c9 (by decide +kernel) (by decide +kernel) (by decide +kernel) (by decide +kernel) (by decide +kernel) (by decide +kernel) (by decide +kernel) (by decide +kernel) (by decide +kernel)
theorem zi_inwg : ∀ c, c < 9 → ∀ w ∈ u_ws (zi_own c) (zi_T c) (zi_Nf c), w ∈ zi_gt := zi_c9 (by decide +kernel) (by decide +kernel) (by decide +kernel) (by decide +kernel) (by decide +kernel) (by decide +kernel) (by decide +kernel) (by decide +kernel) (by decide +kernel)
section ZSTEP
variable {p : Program} {l : Launch} {e : Env} {R : Room} {s : State} {m : MethodId} {args : Array Value} {below : List Frame} {meth : Method} {c : Code} {Q : State → Prop}
variable {D : va_G} {dA : Nat → ClassId} {b : Nat → Nat} {L : Nat} {xs : Nat → Int32} {H0 : Heap} {cc : ByteArray} {nL own n0 s0 : Nat} {ini : Bool}
variable {pc : Nat} {ls st : List Value} {h : zi_Hp} {c2 : zi_Cf} {len r1 r2 r3 pi : Nat} {z : Int}
/-- loads, stores, constants -/
theorem zi_s_aload_n {n : Fin 4} (hC : zi_Cx p R s m args meth c D dA b L xs H0 cc nL own ini) (hd : decode cc pc = .ok (.aload_n n, 1)) (hs : zi_st (.aload_n n, len, r1, r2, r3, pi, z) pc ls st h = some (.inl c2)) (kk : zi_At p l e R s m args below meth c Q D dA b L xs H0 nL n0 s0 c2) : zi_At p l e R s m args below meth c Q D dA b L xs H0 nL n0 s0 (pc, ls, st, h) := by
  intro H als locs cells slots hR hL hlo hn hsl
  obtain ⟨hx, hb, -⟩ := hC
  dsimp only [zi_st] at hs
  split at hs
  · rename_i v hv
    split at hs
    · rename_i hr
      cases hs
      obtain ⟨q, hq⟩ := zr_isR (B := H0.size) (b := b) hr
      have h1 := hL.get1 hv (zi_isR_cat hr).1 (zi_isR_cat hr).2
      rw [hq] at h1
      have k9 := kk H als locs cells slots hR hL hlo hn hsl
      simp only [List.map_cons, hq] at k9
      exact lv_aload_n hx hb hd rfl h1 k9
    · cases hs
  · cases hs
theorem zi_s_aload {n : Nat} (hC : zi_Cx p R s m args meth c D dA b L xs H0 cc nL own ini) (hd : decode cc pc = .ok (.aload n, 2)) (hs : zi_st (.aload n, len, r1, r2, r3, pi, z) pc ls st h = some (.inl c2)) (kk : zi_At p l e R s m args below meth c Q D dA b L xs H0 nL n0 s0 c2) : zi_At p l e R s m args below meth c Q D dA b L xs H0 nL n0 s0 (pc, ls, st, h) := by
  intro H als locs cells slots hR hL hlo hn hsl
  obtain ⟨hx, hb, -⟩ := hC
  dsimp only [zi_st] at hs
  split at hs
  · rename_i v hv
    split at hs
    · rename_i hr
      cases hs
      obtain ⟨q, hq⟩ := zr_isR (B := H0.size) (b := b) hr
      have h1 := hL.get1 hv (zi_isR_cat hr).1 (zi_isR_cat hr).2
      rw [hq] at h1
      have k9 := kk H als locs cells slots hR hL hlo hn hsl
      simp only [List.map_cons, hq] at k9
      exact lv_aload hx hb hd h1 k9
    · cases hs
  · cases hs
theorem zi_s_iload_n {n : Fin 4} (hC : zi_Cx p R s m args meth c D dA b L xs H0 cc nL own ini) (hd : decode cc pc = .ok (.iload_n n, 1)) (hs : zi_st (.iload_n n, len, r1, r2, r3, pi, z) pc ls st h = some (.inl c2)) (kk : zi_At p l e R s m args below meth c Q D dA b L xs H0 nL n0 s0 c2) : zi_At p l e R s m args below meth c Q D dA b L xs H0 nL n0 s0 (pc, ls, st, h) := by
  intro H als locs cells slots hR hL hlo hn hsl
  obtain ⟨hx, hb, -⟩ := hC
  dsimp only [zi_st] at hs
  split at hs
  · rename_i x hv
    cases hs
    exact lv_iload_n hx hb hd rfl (hL.get1 hv rfl (fun _ q => by cases q)) (kk H als locs cells slots hR hL hlo hn hsl)
  · cases hs
theorem zi_s_iload {n : Nat} (hC : zi_Cx p R s m args meth c D dA b L xs H0 cc nL own ini) (hd : decode cc pc = .ok (.iload n, 2)) (hs : zi_st (.iload n, len, r1, r2, r3, pi, z) pc ls st h = some (.inl c2)) (kk : zi_At p l e R s m args below meth c Q D dA b L xs H0 nL n0 s0 c2) : zi_At p l e R s m args below meth c Q D dA b L xs H0 nL n0 s0 (pc, ls, st, h) := by
  intro H als locs cells slots hR hL hlo hn hsl
  obtain ⟨hx, hb, -⟩ := hC
  dsimp only [zi_st] at hs
  split at hs
  · rename_i x hv
    cases hs
    exact lv_iload hx hb hd (hL.get1 hv rfl (fun _ q => by cases q)) (kk H als locs cells slots hR hL hlo hn hsl)
  · cases hs
theorem zi_s_lload_n {n : Fin 4} (hC : zi_Cx p R s m args meth c D dA b L xs H0 cc nL own ini) (hd : decode cc pc = .ok (.lload_n n, 1)) (hs : zi_st (.lload_n n, len, r1, r2, r3, pi, z) pc ls st h = some (.inl c2)) (kk : zi_At p l e R s m args below meth c Q D dA b L xs H0 nL n0 s0 c2) : zi_At p l e R s m args below meth c Q D dA b L xs H0 nL n0 s0 (pc, ls, st, h) := by
  intro H als locs cells slots hR hL hlo hn hsl
  obtain ⟨hx, hb, -⟩ := hC
  dsimp only [zi_st] at hs
  split at hs
  · rename_i x hv
    split at hs
    · rename_i h1
      cases hs
      exact lv_lload_n hx hb hd rfl (hL.get2 hv h1) (kk H als locs cells slots hR hL hlo hn hsl)
    · cases hs
  · cases hs
theorem zi_s_lload {n : Nat} (hC : zi_Cx p R s m args meth c D dA b L xs H0 cc nL own ini) (hd : decode cc pc = .ok (.lload n, 2)) (hs : zi_st (.lload n, len, r1, r2, r3, pi, z) pc ls st h = some (.inl c2)) (kk : zi_At p l e R s m args below meth c Q D dA b L xs H0 nL n0 s0 c2) : zi_At p l e R s m args below meth c Q D dA b L xs H0 nL n0 s0 (pc, ls, st, h) := by
  intro H als locs cells slots hR hL hlo hn hsl
  obtain ⟨hx, hb, -⟩ := hC
  dsimp only [zi_st] at hs
  split at hs
  · rename_i x hv
    split at hs
    · rename_i h1
      cases hs
      exact lv_lload hx hb hd (hL.get2 hv h1) (kk H als locs cells slots hR hL hlo hn hsl)
    · cases hs
  · cases hs
theorem zi_s_istore_n {n : Fin 4} (hC : zi_Cx p R s m args meth c D dA b L xs H0 cc nL own ini) (hd : decode cc pc = .ok (.istore_n n, 1)) (hs : zi_st (.istore_n n, len, r1, r2, r3, pi, z) pc ls st h = some (.inl c2)) (kk : zi_At p l e R s m args below meth c Q D dA b L xs H0 nL n0 s0 c2) : zi_At p l e R s m args below meth c Q D dA b L xs H0 nL n0 s0 (pc, ls, st, h) := by
  intro H als locs cells slots hR hL hlo hn hsl
  obtain ⟨hx, hb, -⟩ := hC
  dsimp only [zi_st] at hs
  split at hs
  · split at hs
    · rename_i hl
      cases hs
      exact lv_istore_n hx hb hd rfl hL.1 (by rw [← hL.2]; exact hl) rfl (fun ls' h2 => kk H ls' locs cells slots hR (hL.put1 rfl (fun _ q => by cases q) h2) hlo hn hsl)
    · cases hs
  · cases hs
theorem zi_s_istore {n : Nat} (hC : zi_Cx p R s m args meth c D dA b L xs H0 cc nL own ini) (hd : decode cc pc = .ok (.istore n, 2)) (hs : zi_st (.istore n, len, r1, r2, r3, pi, z) pc ls st h = some (.inl c2)) (kk : zi_At p l e R s m args below meth c Q D dA b L xs H0 nL n0 s0 c2) : zi_At p l e R s m args below meth c Q D dA b L xs H0 nL n0 s0 (pc, ls, st, h) := by
  intro H als locs cells slots hR hL hlo hn hsl
  obtain ⟨hx, hb, -⟩ := hC
  dsimp only [zi_st] at hs
  split at hs
  · split at hs
    · rename_i hl
      cases hs
      exact lv_istore hx hb hd hL.1 (by rw [← hL.2]; exact hl) rfl (fun ls' h2 => kk H ls' locs cells slots hR (hL.put1 rfl (fun _ q => by cases q) h2) hlo hn hsl)
    · cases hs
  · cases hs
theorem zi_s_lstore {n : Nat} (hC : zi_Cx p R s m args meth c D dA b L xs H0 cc nL own ini) (hd : decode cc pc = .ok (.lstore n, 2)) (hs : zi_st (.lstore n, len, r1, r2, r3, pi, z) pc ls st h = some (.inl c2)) (kk : zi_At p l e R s m args below meth c Q D dA b L xs H0 nL n0 s0 c2) : zi_At p l e R s m args below meth c Q D dA b L xs H0 nL n0 s0 (pc, ls, st, h) := by
  intro H als locs cells slots hR hL hlo hn hsl
  obtain ⟨hx, hb, -⟩ := hC
  dsimp only [zi_st] at hs
  split at hs
  · split at hs
    · rename_i hl
      cases hs
      exact lv_lstore hx hb hd hL.1 (by rw [← hL.2]; exact hl) rfl (fun ls' h2 => kk H ls' locs cells slots hR (hL.put2 hl h2) hlo hn hsl)
    · cases hs
  · cases hs
theorem zi_s_astore_n {n : Fin 4} (hC : zi_Cx p R s m args meth c D dA b L xs H0 cc nL own ini) (hd : decode cc pc = .ok (.astore_n n, 1)) (hs : zi_st (.astore_n n, len, r1, r2, r3, pi, z) pc ls st h = some (.inl c2)) (kk : zi_At p l e R s m args below meth c Q D dA b L xs H0 nL n0 s0 c2) : zi_At p l e R s m args below meth c Q D dA b L xs H0 nL n0 s0 (pc, ls, st, h) := by
  intro H als locs cells slots hR hL hlo hn hsl
  obtain ⟨hx, hb, -⟩ := hC
  dsimp only [zi_st] at hs
  split at hs
  · split at hs
    · rename_i hl
      cases hs
      obtain ⟨q, hq⟩ := zr_isR (B := H0.size) (b := b) hl.1
      simp only [List.map_cons, hq]
      exact lv_astore_n hx hb hd rfl hL.1 (by rw [← hL.2]; exact hl.2) rfl (fun ls' h2 => kk H ls' locs cells slots hR (hL.put1 (zi_isR_cat hl.1).1 (zi_isR_cat hl.1).2 (by rw [hq]; exact h2)) hlo hn hsl)
    · cases hs
  · cases hs
theorem zi_s_astore {n : Nat} (hC : zi_Cx p R s m args meth c D dA b L xs H0 cc nL own ini) (hd : decode cc pc = .ok (.astore n, 2)) (hs : zi_st (.astore n, len, r1, r2, r3, pi, z) pc ls st h = some (.inl c2)) (kk : zi_At p l e R s m args below meth c Q D dA b L xs H0 nL n0 s0 c2) : zi_At p l e R s m args below meth c Q D dA b L xs H0 nL n0 s0 (pc, ls, st, h) := by
  intro H als locs cells slots hR hL hlo hn hsl
  obtain ⟨hx, hb, -⟩ := hC
  dsimp only [zi_st] at hs
  split at hs
  · split at hs
    · rename_i hl
      cases hs
      obtain ⟨q, hq⟩ := zr_isR (B := H0.size) (b := b) hl.1
      simp only [List.map_cons, hq]
      exact lv_astore hx hb hd hL.1 (by rw [← hL.2]; exact hl.2) rfl (fun ls' h2 => kk H ls' locs cells slots hR (hL.put1 (zi_isR_cat hl.1).1 (zi_isR_cat hl.1).2 (by rw [hq]; exact h2)) hlo hn hsl)
    · cases hs
  · cases hs
theorem zi_s_iinc {n : Nat} {d : Int} (hC : zi_Cx p R s m args meth c D dA b L xs H0 cc nL own ini) (hd : decode cc pc = .ok (.iinc n d, 3)) (hs : zi_st (.iinc n d, len, r1, r2, r3, pi, z) pc ls st h = some (.inl c2)) (kk : zi_At p l e R s m args below meth c Q D dA b L xs H0 nL n0 s0 c2) : zi_At p l e R s m args below meth c Q D dA b L xs H0 nL n0 s0 (pc, ls, st, h) := by
  intro H als locs cells slots hR hL hlo hn hsl
  obtain ⟨hx, hb, -⟩ := hC
  dsimp only [zi_st] at hs
  split at hs
  · rename_i x hv
    cases hs
    have hm : (n, Value.int x) ∈ zi_ll (zr H0.size b) 0 ls := (zi_ll_mem _ _ _ _).mpr ⟨n, .int x, by simp, hv, zi_lo_1 _ rfl (fun _ q => by cases q), rfl⟩
    obtain ⟨k, hk⟩ := List.getElem?_of_mem hm
    exact lv_iinc (k := k) hx hb hd hL.1 hk rfl (by rw [← hL.2]; exact (List.getElem?_eq_some_iff.mp hv).1) rfl (fun ls' h2 => kk H ls' locs cells slots hR (hL.put1 rfl (fun _ q => by cases q) h2) hlo hn hsl)
  · cases hs
theorem zi_s_iconst {n : Int} (hC : zi_Cx p R s m args meth c D dA b L xs H0 cc nL own ini) (hd : decode cc pc = .ok (.iconst n, 1)) (hs : zi_st (.iconst n, len, r1, r2, r3, pi, z) pc ls st h = some (.inl c2)) (kk : zi_At p l e R s m args below meth c Q D dA b L xs H0 nL n0 s0 c2) : zi_At p l e R s m args below meth c Q D dA b L xs H0 nL n0 s0 (pc, ls, st, h) := by
  intro H als locs cells slots hR hL hlo hn hsl
  obtain ⟨hx, hb, hml, hown, hts, hK, hini, hfr, hlc, hbl⟩ := hC
  dsimp only [zi_st] at hs
  cases hs
  exact lv_iconst hx hb hd rfl (kk H als locs cells slots hR hL hlo hn hsl)
theorem zi_s_bipush {n : Int} (hC : zi_Cx p R s m args meth c D dA b L xs H0 cc nL own ini) (hd : decode cc pc = .ok (.bipush n, 2)) (hs : zi_st (.bipush n, len, r1, r2, r3, pi, z) pc ls st h = some (.inl c2)) (kk : zi_At p l e R s m args below meth c Q D dA b L xs H0 nL n0 s0 c2) : zi_At p l e R s m args below meth c Q D dA b L xs H0 nL n0 s0 (pc, ls, st, h) := by
  intro H als locs cells slots hR hL hlo hn hsl
  obtain ⟨hx, hb, hml, hown, hts, hK, hini, hfr, hlc, hbl⟩ := hC
  dsimp only [zi_st] at hs
  cases hs
  exact lv_bipush hx hb hd rfl (kk H als locs cells slots hR hL hlo hn hsl)
theorem zi_s_sipush {n : Int} (hC : zi_Cx p R s m args meth c D dA b L xs H0 cc nL own ini) (hd : decode cc pc = .ok (.sipush n, 3)) (hs : zi_st (.sipush n, len, r1, r2, r3, pi, z) pc ls st h = some (.inl c2)) (kk : zi_At p l e R s m args below meth c Q D dA b L xs H0 nL n0 s0 c2) : zi_At p l e R s m args below meth c Q D dA b L xs H0 nL n0 s0 (pc, ls, st, h) := by
  intro H als locs cells slots hR hL hlo hn hsl
  obtain ⟨hx, hb, hml, hown, hts, hK, hini, hfr, hlc, hbl⟩ := hC
  dsimp only [zi_st] at hs
  cases hs
  exact lv_sipush hx hb hd rfl (kk H als locs cells slots hR hL hlo hn hsl)
theorem zi_s_lconst {n : Fin 2} (hC : zi_Cx p R s m args meth c D dA b L xs H0 cc nL own ini) (hd : decode cc pc = .ok (.lconst n, 1)) (hs : zi_st (.lconst n, len, r1, r2, r3, pi, z) pc ls st h = some (.inl c2)) (kk : zi_At p l e R s m args below meth c Q D dA b L xs H0 nL n0 s0 c2) : zi_At p l e R s m args below meth c Q D dA b L xs H0 nL n0 s0 (pc, ls, st, h) := by
  intro H als locs cells slots hR hL hlo hn hsl
  obtain ⟨hx, hb, hml, hown, hts, hK, hini, hfr, hlc, hbl⟩ := hC
  dsimp only [zi_st] at hs
  cases hs
  exact lv_lconst hx hb hd rfl (kk H als locs cells slots hR hL hlo hn hsl)
theorem zi_s_ldc_w {n : Nat} (hC : zi_Cx p R s m args meth c D dA b L xs H0 cc nL own ini) (hd : decode cc pc = .ok (.ldc_w n, 3)) (hw : Cond.constant (zi_own own) n (Int32.ofInt z) ∈ zi_gt) (hs : zi_st (.ldc_w n, len, r1, r2, r3, pi, z) pc ls st h = some (.inl c2)) (kk : zi_At p l e R s m args below meth c Q D dA b L xs H0 nL n0 s0 c2) : zi_At p l e R s m args below meth c Q D dA b L xs H0 nL n0 s0 (pc, ls, st, h) := by
  intro H als locs cells slots hR hL hlo hn hsl
  obtain ⟨hx, hb, hml, hown, hts, hK, hini, hfr, hlc, hbl⟩ := hC
  dsimp only [zi_st] at hs
  cases hs
  exact lv_ldcw hx hb hown (hts _ hw) hd (kk H als locs cells slots hR hL hlo hn hsl)
theorem zi_s_ldc2_w {n : Nat} (hC : zi_Cx p R s m args meth c D dA b L xs H0 cc nL own ini) (hd : decode cc pc = .ok (.ldc2_w n, 3)) (hw : Cond.constantLong (zi_own own) n (Int64.ofInt z) ∈ zi_gt) (hs : zi_st (.ldc2_w n, len, r1, r2, r3, pi, z) pc ls st h = some (.inl c2)) (kk : zi_At p l e R s m args below meth c Q D dA b L xs H0 nL n0 s0 c2) : zi_At p l e R s m args below meth c Q D dA b L xs H0 nL n0 s0 (pc, ls, st, h) := by
  intro H als locs cells slots hR hL hlo hn hsl
  obtain ⟨hx, hb, hml, hown, hts, hK, hini, hfr, hlc, hbl⟩ := hC
  dsimp only [zi_st] at hs
  cases hs
  exact lv_ldc2 hx hb hown (hts _ hw) hd (kk H als locs cells slots hR hL hlo hn hsl)
theorem zi_s_iadd (hC : zi_Cx p R s m args meth c D dA b L xs H0 cc nL own ini) (hd : decode cc pc = .ok (.iadd, 1)) (hs : zi_st (.iadd, len, r1, r2, r3, pi, z) pc ls st h = some (.inl c2)) (kk : zi_At p l e R s m args below meth c Q D dA b L xs H0 nL n0 s0 c2) : zi_At p l e R s m args below meth c Q D dA b L xs H0 nL n0 s0 (pc, ls, st, h) := by
  intro H als locs cells slots hR hL hlo hn hsl
  obtain ⟨hx, hb, hml, hown, hts, hK, hini, hfr, hlc, hbl⟩ := hC
  dsimp only [zi_st] at hs
  split at hs
  · cases hs
    exact lv_iadd hx hb hd (kk H als locs cells slots hR hL hlo hn hsl)
  · cases hs
theorem zi_s_isub (hC : zi_Cx p R s m args meth c D dA b L xs H0 cc nL own ini) (hd : decode cc pc = .ok (.isub, 1)) (hs : zi_st (.isub, len, r1, r2, r3, pi, z) pc ls st h = some (.inl c2)) (kk : zi_At p l e R s m args below meth c Q D dA b L xs H0 nL n0 s0 c2) : zi_At p l e R s m args below meth c Q D dA b L xs H0 nL n0 s0 (pc, ls, st, h) := by
  intro H als locs cells slots hR hL hlo hn hsl
  obtain ⟨hx, hb, hml, hown, hts, hK, hini, hfr, hlc, hbl⟩ := hC
  dsimp only [zi_st] at hs
  split at hs
  · cases hs
    exact lv_isub hx hb hd (kk H als locs cells slots hR hL hlo hn hsl)
  · cases hs
theorem zi_s_imul (hC : zi_Cx p R s m args meth c D dA b L xs H0 cc nL own ini) (hd : decode cc pc = .ok (.imul, 1)) (hs : zi_st (.imul, len, r1, r2, r3, pi, z) pc ls st h = some (.inl c2)) (kk : zi_At p l e R s m args below meth c Q D dA b L xs H0 nL n0 s0 c2) : zi_At p l e R s m args below meth c Q D dA b L xs H0 nL n0 s0 (pc, ls, st, h) := by
  intro H als locs cells slots hR hL hlo hn hsl
  obtain ⟨hx, hb, hml, hown, hts, hK, hini, hfr, hlc, hbl⟩ := hC
  dsimp only [zi_st] at hs
  split at hs
  · cases hs
    exact lv_imul hx hb hd (kk H als locs cells slots hR hL hlo hn hsl)
  · cases hs
theorem zi_s_iand (hC : zi_Cx p R s m args meth c D dA b L xs H0 cc nL own ini) (hd : decode cc pc = .ok (.iand, 1)) (hs : zi_st (.iand, len, r1, r2, r3, pi, z) pc ls st h = some (.inl c2)) (kk : zi_At p l e R s m args below meth c Q D dA b L xs H0 nL n0 s0 c2) : zi_At p l e R s m args below meth c Q D dA b L xs H0 nL n0 s0 (pc, ls, st, h) := by
  intro H als locs cells slots hR hL hlo hn hsl
  obtain ⟨hx, hb, hml, hown, hts, hK, hini, hfr, hlc, hbl⟩ := hC
  dsimp only [zi_st] at hs
  split at hs
  · cases hs
    exact lv_iand hx hb hd (kk H als locs cells slots hR hL hlo hn hsl)
  · cases hs
theorem zi_s_ior (hC : zi_Cx p R s m args meth c D dA b L xs H0 cc nL own ini) (hd : decode cc pc = .ok (.ior, 1)) (hs : zi_st (.ior, len, r1, r2, r3, pi, z) pc ls st h = some (.inl c2)) (kk : zi_At p l e R s m args below meth c Q D dA b L xs H0 nL n0 s0 c2) : zi_At p l e R s m args below meth c Q D dA b L xs H0 nL n0 s0 (pc, ls, st, h) := by
  intro H als locs cells slots hR hL hlo hn hsl
  obtain ⟨hx, hb, hml, hown, hts, hK, hini, hfr, hlc, hbl⟩ := hC
  dsimp only [zi_st] at hs
  split at hs
  · cases hs
    exact lv_ior hx hb hd (kk H als locs cells slots hR hL hlo hn hsl)
  · cases hs
theorem zi_s_ishl (hC : zi_Cx p R s m args meth c D dA b L xs H0 cc nL own ini) (hd : decode cc pc = .ok (.ishl, 1)) (hs : zi_st (.ishl, len, r1, r2, r3, pi, z) pc ls st h = some (.inl c2)) (kk : zi_At p l e R s m args below meth c Q D dA b L xs H0 nL n0 s0 c2) : zi_At p l e R s m args below meth c Q D dA b L xs H0 nL n0 s0 (pc, ls, st, h) := by
  intro H als locs cells slots hR hL hlo hn hsl
  obtain ⟨hx, hb, hml, hown, hts, hK, hini, hfr, hlc, hbl⟩ := hC
  dsimp only [zi_st] at hs
  split at hs
  · cases hs
    exact lv_ishl hx hb hd (kk H als locs cells slots hR hL hlo hn hsl)
  · cases hs
theorem zi_s_ishr (hC : zi_Cx p R s m args meth c D dA b L xs H0 cc nL own ini) (hd : decode cc pc = .ok (.ishr, 1)) (hs : zi_st (.ishr, len, r1, r2, r3, pi, z) pc ls st h = some (.inl c2)) (kk : zi_At p l e R s m args below meth c Q D dA b L xs H0 nL n0 s0 c2) : zi_At p l e R s m args below meth c Q D dA b L xs H0 nL n0 s0 (pc, ls, st, h) := by
  intro H als locs cells slots hR hL hlo hn hsl
  obtain ⟨hx, hb, hml, hown, hts, hK, hini, hfr, hlc, hbl⟩ := hC
  dsimp only [zi_st] at hs
  split at hs
  · cases hs
    exact lv_ishr hx hb hd (kk H als locs cells slots hR hL hlo hn hsl)
  · cases hs
theorem zi_s_ladd (hC : zi_Cx p R s m args meth c D dA b L xs H0 cc nL own ini) (hd : decode cc pc = .ok (.ladd, 1)) (hs : zi_st (.ladd, len, r1, r2, r3, pi, z) pc ls st h = some (.inl c2)) (kk : zi_At p l e R s m args below meth c Q D dA b L xs H0 nL n0 s0 c2) : zi_At p l e R s m args below meth c Q D dA b L xs H0 nL n0 s0 (pc, ls, st, h) := by
  intro H als locs cells slots hR hL hlo hn hsl
  obtain ⟨hx, hb, hml, hown, hts, hK, hini, hfr, hlc, hbl⟩ := hC
  dsimp only [zi_st] at hs
  split at hs
  · cases hs
    exact lv_ladd hx hb hd (kk H als locs cells slots hR hL hlo hn hsl)
  · cases hs
theorem zi_s_lmul (hC : zi_Cx p R s m args meth c D dA b L xs H0 cc nL own ini) (hd : decode cc pc = .ok (.lmul, 1)) (hs : zi_st (.lmul, len, r1, r2, r3, pi, z) pc ls st h = some (.inl c2)) (kk : zi_At p l e R s m args below meth c Q D dA b L xs H0 nL n0 s0 c2) : zi_At p l e R s m args below meth c Q D dA b L xs H0 nL n0 s0 (pc, ls, st, h) := by
  intro H als locs cells slots hR hL hlo hn hsl
  obtain ⟨hx, hb, hml, hown, hts, hK, hini, hfr, hlc, hbl⟩ := hC
  dsimp only [zi_st] at hs
  split at hs
  · cases hs
    exact lv_lmul hx hb hd (kk H als locs cells slots hR hL hlo hn hsl)
  · cases hs
theorem zi_s_iushr (hC : zi_Cx p R s m args meth c D dA b L xs H0 cc nL own ini) (hd : decode cc pc = .ok (.iushr, 1)) (hs : zi_st (.iushr, len, r1, r2, r3, pi, z) pc ls st h = some (.inl c2)) (kk : zi_At p l e R s m args below meth c Q D dA b L xs H0 nL n0 s0 c2) : zi_At p l e R s m args below meth c Q D dA b L xs H0 nL n0 s0 (pc, ls, st, h) := by
  intro H als locs cells slots hR hL hlo hn hsl
  obtain ⟨hx, hb, hml, hown, hts, hK, hini, hfr, hlc, hbl⟩ := hC
  dsimp only [zi_st] at hs
  split at hs
  · cases hs
    exact lv_iushr hx hb hd rfl (kk H als locs cells slots hR hL hlo hn hsl)
  · cases hs
theorem zi_s_i2l (hC : zi_Cx p R s m args meth c D dA b L xs H0 cc nL own ini) (hd : decode cc pc = .ok (.i2l, 1)) (hs : zi_st (.i2l, len, r1, r2, r3, pi, z) pc ls st h = some (.inl c2)) (kk : zi_At p l e R s m args below meth c Q D dA b L xs H0 nL n0 s0 c2) : zi_At p l e R s m args below meth c Q D dA b L xs H0 nL n0 s0 (pc, ls, st, h) := by
  intro H als locs cells slots hR hL hlo hn hsl
  obtain ⟨hx, hb, hml, hown, hts, hK, hini, hfr, hlc, hbl⟩ := hC
  dsimp only [zi_st] at hs
  split at hs
  · cases hs
    exact lv_i2l hx hb hd rfl (kk H als locs cells slots hR hL hlo hn hsl)
  · cases hs
theorem zi_s_i2b (hC : zi_Cx p R s m args meth c D dA b L xs H0 cc nL own ini) (hd : decode cc pc = .ok (.i2b, 1)) (hs : zi_st (.i2b, len, r1, r2, r3, pi, z) pc ls st h = some (.inl c2)) (kk : zi_At p l e R s m args below meth c Q D dA b L xs H0 nL n0 s0 c2) : zi_At p l e R s m args below meth c Q D dA b L xs H0 nL n0 s0 (pc, ls, st, h) := by
  intro H als locs cells slots hR hL hlo hn hsl
  obtain ⟨hx, hb, hml, hown, hts, hK, hini, hfr, hlc, hbl⟩ := hC
  dsimp only [zi_st] at hs
  split at hs
  · cases hs
    exact lv_i2b hx hb hd rfl (kk H als locs cells slots hR hL hlo hn hsl)
  · cases hs
theorem zi_s_i2s (hC : zi_Cx p R s m args meth c D dA b L xs H0 cc nL own ini) (hd : decode cc pc = .ok (.i2s, 1)) (hs : zi_st (.i2s, len, r1, r2, r3, pi, z) pc ls st h = some (.inl c2)) (kk : zi_At p l e R s m args below meth c Q D dA b L xs H0 nL n0 s0 c2) : zi_At p l e R s m args below meth c Q D dA b L xs H0 nL n0 s0 (pc, ls, st, h) := by
  intro H als locs cells slots hR hL hlo hn hsl
  obtain ⟨hx, hb, hml, hown, hts, hK, hini, hfr, hlc, hbl⟩ := hC
  dsimp only [zi_st] at hs
  split at hs
  · cases hs
    exact lv_i2s hx hb hd rfl (kk H als locs cells slots hR hL hlo hn hsl)
  · cases hs
theorem zi_s_lcmp (hC : zi_Cx p R s m args meth c D dA b L xs H0 cc nL own ini) (hd : decode cc pc = .ok (.lcmp, 1)) (hs : zi_st (.lcmp, len, r1, r2, r3, pi, z) pc ls st h = some (.inl c2)) (kk : zi_At p l e R s m args below meth c Q D dA b L xs H0 nL n0 s0 c2) : zi_At p l e R s m args below meth c Q D dA b L xs H0 nL n0 s0 (pc, ls, st, h) := by
  intro H als locs cells slots hR hL hlo hn hsl
  obtain ⟨hx, hb, hml, hown, hts, hK, hini, hfr, hlc, hbl⟩ := hC
  dsimp only [zi_st] at hs
  split at hs
  · cases hs
    exact W.lcmp hx hb hd (kk H als locs cells slots hR hL hlo hn hsl)
  · cases hs
theorem zi_s_idiv (hC : zi_Cx p R s m args meth c D dA b L xs H0 cc nL own ini) (hd : decode cc pc = .ok (.idiv, 1)) (hs : zi_st (.idiv, len, r1, r2, r3, pi, z) pc ls st h = some (.inl c2)) (kk : zi_At p l e R s m args below meth c Q D dA b L xs H0 nL n0 s0 c2) : zi_At p l e R s m args below meth c Q D dA b L xs H0 nL n0 s0 (pc, ls, st, h) := by
  intro H als locs cells slots hR hL hlo hn hsl
  obtain ⟨hx, hb, hml, hown, hts, hK, hini, hfr, hlc, hbl⟩ := hC
  dsimp only [zi_st] at hs
  split at hs
  · split at hs
    · cases hs
    · rename_i hne
      cases hs
      exact lv_idiv hx hb hd hne (kk H als locs cells slots hR hL hlo hn hsl)
  · cases hs
theorem zi_s_ldiv (hC : zi_Cx p R s m args meth c D dA b L xs H0 cc nL own ini) (hd : decode cc pc = .ok (.ldiv, 1)) (hs : zi_st (.ldiv, len, r1, r2, r3, pi, z) pc ls st h = some (.inl c2)) (kk : zi_At p l e R s m args below meth c Q D dA b L xs H0 nL n0 s0 c2) : zi_At p l e R s m args below meth c Q D dA b L xs H0 nL n0 s0 (pc, ls, st, h) := by
  intro H als locs cells slots hR hL hlo hn hsl
  obtain ⟨hx, hb, hml, hown, hts, hK, hini, hfr, hlc, hbl⟩ := hC
  dsimp only [zi_st] at hs
  split at hs
  · split at hs
    · cases hs
    · rename_i hne
      cases hs
      exact lv_ldiv hx hb hd hne (kk H als locs cells slots hR hL hlo hn hsl)
  · cases hs
theorem zi_s_lrem (hC : zi_Cx p R s m args meth c D dA b L xs H0 cc nL own ini) (hd : decode cc pc = .ok (.lrem, 1)) (hs : zi_st (.lrem, len, r1, r2, r3, pi, z) pc ls st h = some (.inl c2)) (kk : zi_At p l e R s m args below meth c Q D dA b L xs H0 nL n0 s0 c2) : zi_At p l e R s m args below meth c Q D dA b L xs H0 nL n0 s0 (pc, ls, st, h) := by
  intro H als locs cells slots hR hL hlo hn hsl
  obtain ⟨hx, hb, hml, hown, hts, hK, hini, hfr, hlc, hbl⟩ := hC
  dsimp only [zi_st] at hs
  split at hs
  · split at hs
    · cases hs
    · rename_i hne
      cases hs
      exact lv_lrem hx hb hd hne (kk H als locs cells slots hR hL hlo hn hsl)
  · cases hs
theorem zi_s_dup (hC : zi_Cx p R s m args meth c D dA b L xs H0 cc nL own ini) (hd : decode cc pc = .ok (.dup, 1)) (hs : zi_st (.dup, len, r1, r2, r3, pi, z) pc ls st h = some (.inl c2)) (kk : zi_At p l e R s m args below meth c Q D dA b L xs H0 nL n0 s0 c2) : zi_At p l e R s m args below meth c Q D dA b L xs H0 nL n0 s0 (pc, ls, st, h) := by
  intro H als locs cells slots hR hL hlo hn hsl
  obtain ⟨hx, hb, hml, hown, hts, hK, hini, hfr, hlc, hbl⟩ := hC
  dsimp only [zi_st] at hs
  split at hs
  · split at hs
    · rename_i hc
      cases hs
      exact lv_dup hx hb hd (by rw [zr_cat]; exact hc) (kk H als locs cells slots hR hL hlo hn hsl)
    · cases hs
  · cases hs
theorem zi_s_pop (hC : zi_Cx p R s m args meth c D dA b L xs H0 cc nL own ini) (hd : decode cc pc = .ok (.pop, 1)) (hs : zi_st (.pop, len, r1, r2, r3, pi, z) pc ls st h = some (.inl c2)) (kk : zi_At p l e R s m args below meth c Q D dA b L xs H0 nL n0 s0 c2) : zi_At p l e R s m args below meth c Q D dA b L xs H0 nL n0 s0 (pc, ls, st, h) := by
  intro H als locs cells slots hR hL hlo hn hsl
  obtain ⟨hx, hb, hml, hown, hts, hK, hini, hfr, hlc, hbl⟩ := hC
  dsimp only [zi_st] at hs
  split at hs
  · split at hs
    · rename_i hc
      cases hs
      exact lv_pop hx hb hd (by rw [zr_cat]; exact hc) (kk H als locs cells slots hR hL hlo hn hsl)
    · cases hs
  · cases hs
theorem zi_s_pop2 (hC : zi_Cx p R s m args meth c D dA b L xs H0 cc nL own ini) (hd : decode cc pc = .ok (.pop2, 1)) (hs : zi_st (.pop2, len, r1, r2, r3, pi, z) pc ls st h = some (.inl c2)) (kk : zi_At p l e R s m args below meth c Q D dA b L xs H0 nL n0 s0 c2) : zi_At p l e R s m args below meth c Q D dA b L xs H0 nL n0 s0 (pc, ls, st, h) := by
  intro H als locs cells slots hR hL hlo hn hsl
  obtain ⟨hx, hb, hml, hown, hts, hK, hini, hfr, hlc, hbl⟩ := hC
  dsimp only [zi_st] at hs
  split at hs
  · split at hs
    · rename_i hc
      cases hs
      exact lv_pop2_2 hx hb hd (by rw [zr_cat]; exact hc) (kk H als locs cells slots hR hL hlo hn hsl)
    · cases hs
  · cases hs
theorem zi_s_dup2 (hC : zi_Cx p R s m args meth c D dA b L xs H0 cc nL own ini) (hd : decode cc pc = .ok (.dup2, 1)) (hs : zi_st (.dup2, len, r1, r2, r3, pi, z) pc ls st h = some (.inl c2)) (kk : zi_At p l e R s m args below meth c Q D dA b L xs H0 nL n0 s0 c2) : zi_At p l e R s m args below meth c Q D dA b L xs H0 nL n0 s0 (pc, ls, st, h) := by
  intro H als locs cells slots hR hL hlo hn hsl
  obtain ⟨hx, hb, hml, hown, hts, hK, hini, hfr, hlc, hbl⟩ := hC
  dsimp only [zi_st] at hs
  split at hs
  · split at hs
    · rename_i hc
      cases hs
      exact lv_dup2_11 hx hb hd (by rw [zr_cat]; exact hc.1) (by rw [zr_cat]; exact hc.2) (kk H als locs cells slots hR hL hlo hn hsl)
    · cases hs
  · cases hs
theorem zi_s_ifCond {cd : Jvm.ClassFile.Cond} {off : Int} (hC : zi_Cx p R s m args meth c D dA b L xs H0 cc nL own ini) (hd : decode cc pc = .ok (.ifCond cd off, 3)) (h0 : 0 ≤ (pc : Int) + off) (hs : zi_st (.ifCond cd off, len, r1, r2, r3, pi, z) pc ls st h = some (.inl c2)) (kk : zi_At p l e R s m args below meth c Q D dA b L xs H0 nL n0 s0 c2) : zi_At p l e R s m args below meth c Q D dA b L xs H0 nL n0 s0 (pc, ls, st, h) := by
  intro H als locs cells slots hR hL hlo hn hsl
  obtain ⟨hx, hb, hml, hown, hts, hK, hini, hfr, hlc, hbl⟩ := hC
  dsimp only [zi_st] at hs
  split at hs
  · have ht := (Int.toNat_of_nonneg h0).symm
    cases cd with
    | eq =>
      refine lv_if_eq hx hb hd ht (fun q => ?_) (fun q => ?_)
      · rw [zi_br, if_pos q, zi_to, if_pos h0] at hs
        cases hs
        exact (kk H als locs cells slots hR hL hlo hn hsl)
      · rw [zi_br, if_neg q] at hs
        cases hs
        exact (kk H als locs cells slots hR hL hlo hn hsl)
    | ne =>
      refine lv_if_ne hx hb hd ht (fun q => ?_) (fun q => ?_)
      · rw [zi_br, if_neg q, zi_to, if_pos h0] at hs
        cases hs
        exact (kk H als locs cells slots hR hL hlo hn hsl)
      · rw [zi_br, if_pos q] at hs
        cases hs
        exact (kk H als locs cells slots hR hL hlo hn hsl)
    | lt =>
      refine lv_if_lt hx hb hd ht (fun q => ?_) (fun q => ?_)
      · rw [zi_br, if_pos q, zi_to, if_pos h0] at hs
        cases hs
        exact (kk H als locs cells slots hR hL hlo hn hsl)
      · rw [zi_br, if_neg q] at hs
        cases hs
        exact (kk H als locs cells slots hR hL hlo hn hsl)
    | ge =>
      refine lv_if_ge hx hb hd ht (fun q => ?_) (fun q => ?_)
      · rw [zi_br, if_neg (k2_nlt q), zi_to, if_pos h0] at hs
        cases hs
        exact (kk H als locs cells slots hR hL hlo hn hsl)
      · rw [zi_br, if_pos (k2_lt q)] at hs
        cases hs
        exact (kk H als locs cells slots hR hL hlo hn hsl)
    | gt =>
      refine lv_if_gt hx hb hd ht (fun q => ?_) (fun q => ?_)
      · rw [zi_br, if_pos q, zi_to, if_pos h0] at hs
        cases hs
        exact (kk H als locs cells slots hR hL hlo hn hsl)
      · rw [zi_br, if_neg q] at hs
        cases hs
        exact (kk H als locs cells slots hR hL hlo hn hsl)
    | le =>
      refine lv_if_le hx hb hd ht (fun q => ?_) (fun q => ?_)
      · rw [zi_br, if_neg (k2_nlt q), zi_to, if_pos h0] at hs
        cases hs
        exact (kk H als locs cells slots hR hL hlo hn hsl)
      · rw [zi_br, if_pos (k2_lt q)] at hs
        cases hs
        exact (kk H als locs cells slots hR hL hlo hn hsl)
  · cases hs
theorem zi_s_if_icmp {cd : Jvm.ClassFile.Cond} {off : Int} (hC : zi_Cx p R s m args meth c D dA b L xs H0 cc nL own ini) (hd : decode cc pc = .ok (.if_icmp cd off, 3)) (h0 : 0 ≤ (pc : Int) + off) (hs : zi_st (.if_icmp cd off, len, r1, r2, r3, pi, z) pc ls st h = some (.inl c2)) (kk : zi_At p l e R s m args below meth c Q D dA b L xs H0 nL n0 s0 c2) : zi_At p l e R s m args below meth c Q D dA b L xs H0 nL n0 s0 (pc, ls, st, h) := by
  intro H als locs cells slots hR hL hlo hn hsl
  obtain ⟨hx, hb, hml, hown, hts, hK, hini, hfr, hlc, hbl⟩ := hC
  dsimp only [zi_st] at hs
  split at hs
  · have ht := (Int.toNat_of_nonneg h0).symm
    cases cd with
    | eq =>
      refine lv_icmp_eq hx hb hd ht (fun q => ?_) (fun q => ?_)
      · rw [zi_br, if_pos q, zi_to, if_pos h0] at hs
        cases hs
        exact (kk H als locs cells slots hR hL hlo hn hsl)
      · rw [zi_br, if_neg q] at hs
        cases hs
        exact (kk H als locs cells slots hR hL hlo hn hsl)
    | ne =>
      refine lv_icmp_ne hx hb hd ht (fun q => ?_) (fun q => ?_)
      · rw [zi_br, if_neg q, zi_to, if_pos h0] at hs
        cases hs
        exact (kk H als locs cells slots hR hL hlo hn hsl)
      · rw [zi_br, if_pos q] at hs
        cases hs
        exact (kk H als locs cells slots hR hL hlo hn hsl)
    | lt =>
      refine lv_icmp_lt hx hb hd ht (fun q => ?_) (fun q => ?_)
      · rw [zi_br, if_pos q, zi_to, if_pos h0] at hs
        cases hs
        exact (kk H als locs cells slots hR hL hlo hn hsl)
      · rw [zi_br, if_neg q] at hs
        cases hs
        exact (kk H als locs cells slots hR hL hlo hn hsl)
    | ge =>
      refine lv_icmp_ge hx hb hd ht (fun q => ?_) (fun q => ?_)
      · rw [zi_br, if_neg (k2_nlt q), zi_to, if_pos h0] at hs
        cases hs
        exact (kk H als locs cells slots hR hL hlo hn hsl)
      · rw [zi_br, if_pos (k2_lt q)] at hs
        cases hs
        exact (kk H als locs cells slots hR hL hlo hn hsl)
    | gt =>
      refine lv_icmp_gt hx hb hd ht (fun q => ?_) (fun q => ?_)
      · rw [zi_br, if_pos q, zi_to, if_pos h0] at hs
        cases hs
        exact (kk H als locs cells slots hR hL hlo hn hsl)
      · rw [zi_br, if_neg q] at hs
        cases hs
        exact (kk H als locs cells slots hR hL hlo hn hsl)
    | le =>
      refine lv_icmp_le hx hb hd ht (fun q => ?_) (fun q => ?_)
      · rw [zi_br, if_neg (k2_nlt q), zi_to, if_pos h0] at hs
        cases hs
        exact (kk H als locs cells slots hR hL hlo hn hsl)
      · rw [zi_br, if_pos (k2_lt q)] at hs
        cases hs
        exact (kk H als locs cells slots hR hL hlo hn hsl)
  · cases hs
theorem zi_s_goto {off : Int} (hC : zi_Cx p R s m args meth c D dA b L xs H0 cc nL own ini) (hd : decode cc pc = .ok (.goto off, 3)) (hs : zi_st (.goto off, len, r1, r2, r3, pi, z) pc ls st h = some (.inl c2)) (kk : zi_At p l e R s m args below meth c Q D dA b L xs H0 nL n0 s0 c2) : zi_At p l e R s m args below meth c Q D dA b L xs H0 nL n0 s0 (pc, ls, st, h) := by
  intro H als locs cells slots hR hL hlo hn hsl
  obtain ⟨hx, hb, hml, hown, hts, hK, hini, hfr, hlc, hbl⟩ := hC
  dsimp only [zi_st] at hs
  obtain ⟨tgt, ht, e9⟩ := zi_to_eq hs
  cases e9
  exact lv_goto hx hb hd ht (kk H als locs cells slots hR hL hlo hn hsl)
theorem zi_s_tableswitch {dflt lo hi : Int} {offs : Array Int} (hC : zi_Cx p R s m args meth c D dA b L xs H0 cc nL own ini) (hd : decode cc pc = .ok (.tableswitch dflt lo hi offs, len)) (hs : zi_st (.tableswitch dflt lo hi offs, len, r1, r2, r3, pi, z) pc ls st h = some (.inl c2)) (kk : zi_At p l e R s m args below meth c Q D dA b L xs H0 nL n0 s0 c2) : zi_At p l e R s m args below meth c Q D dA b L xs H0 nL n0 s0 (pc, ls, st, h) := by
  intro H als locs cells slots hR hL hlo hn hsl
  obtain ⟨hx, hb, hml, hown, hts, hK, hini, hfr, hlc, hbl⟩ := hC
  dsimp only [zi_st] at hs
  split at hs
  · split at hs
    · rename_i h1
      obtain ⟨tgt, ht, e9⟩ := zi_to_eq hs
      cases e9
      exact lv_tableOut hx hb hd h1 ht (kk H als locs cells slots hR hL hlo hn hsl)
    · rename_i h1
      split at hs
      · rename_i off ho
        obtain ⟨tgt, ht, e9⟩ := zi_to_eq hs
        cases e9
        exact lv_tableIn hx hb hd (fun q => h1 (Or.inl q)) (fun q => h1 (Or.inr q)) ho ht (kk H als locs cells slots hR hL hlo hn hsl)
      · cases hs
  · cases hs
end ZSTEP
