/-! THE READING MACHINE: the program's instructions over a plain memory. Values: .ref a is the a-th cell that the law has made, .retAddr 0 the script, .double 0 a local that is not set, .double 1 the second half of a long. -/
abbrev zi_Hp : Type := Nat × Nat × (Nat → Nat × Nat) × (Nat → Nat → Int32) × (Nat → Nat → Bool) × (Nat → Nat → Int64) × (Nat → Nat → Value) × Nat × (Nat → Int32)
def zh_n (h : zi_Hp) : Nat := h.1
def zh_s (h : zi_Hp) : Nat := h.2.1
def zh_k (h : zi_Hp) : Nat → Nat × Nat := h.2.2.1
def zh_i (h : zi_Hp) : Nat → Nat → Int32 := h.2.2.2.1
def zh_b (h : zi_Hp) : Nat → Nat → Bool := h.2.2.2.2.1
def zh_l (h : zi_Hp) : Nat → Nat → Int64 := h.2.2.2.2.2.1
def zh_r (h : zi_Hp) : Nat → Nat → Value := h.2.2.2.2.2.2.1
def zh_L (h : zi_Hp) : Nat := h.2.2.2.2.2.2.2.1
def zh_x (h : zi_Hp) : Nat → Int32 := h.2.2.2.2.2.2.2.2
def zh_u {α : Type} (f : Nat → Nat → α) (a k : Nat) (v : α) : Nat → Nat → α := fun b j => if b = a ∧ j = k then v else f b j
def zh_z {α : Type} (f : Nat → Nat → α) (a : Nat) (v : α) : Nat → Nat → α := fun b j => if b = a then v else f b j
def zh_c {α : Type} (f : Nat → Nat → α) (s sp d dp n : Nat) : Nat → Nat → α := fun b j => if b = d ∧ dp ≤ j ∧ j < dp + n then f s (sp + (j - dp)) else f b j
def zh_wi (h : zi_Hp) (a k : Nat) (v : Int32) : zi_Hp := (zh_n h, zh_s h, zh_k h, zh_u (zh_i h) a k v, zh_b h, zh_l h, zh_r h, zh_L h, zh_x h)
def zh_wb (h : zi_Hp) (a k : Nat) (v : Bool) : zi_Hp := (zh_n h, zh_s h, zh_k h, zh_i h, zh_u (zh_b h) a k v, zh_l h, zh_r h, zh_L h, zh_x h)
def zh_wl (h : zi_Hp) (a k : Nat) (v : Int64) : zi_Hp := (zh_n h, zh_s h, zh_k h, zh_i h, zh_b h, zh_u (zh_l h) a k v, zh_r h, zh_L h, zh_x h)
def zh_wr (h : zi_Hp) (a k : Nat) (v : Value) : zi_Hp := (zh_n h, zh_s h, zh_k h, zh_i h, zh_b h, zh_l h, zh_u (zh_r h) a k v, zh_L h, zh_x h)
def zh_ci (h : zi_Hp) (s sp d dp n : Nat) : zi_Hp := (zh_n h, zh_s h, zh_k h, zh_c (zh_i h) s sp d dp n, zh_b h, zh_l h, zh_r h, zh_L h, zh_x h)
def zh_cb (h : zi_Hp) (s sp d dp n : Nat) : zi_Hp := (zh_n h, zh_s h, zh_k h, zh_i h, zh_c (zh_b h) s sp d dp n, zh_l h, zh_r h, zh_L h, zh_x h)
/-- a new cell, of a kind, of a length, with the defaults -/
def zh_al (h : zi_Hp) (kd len : Nat) : zi_Hp := (zh_n h + 1, zh_s h + len, fun b => if b = zh_n h then (kd, len) else zh_k h b, zh_z (zh_i h) (zh_n h) 0, zh_z (zh_b h) (zh_n h) false, zh_z (zh_l h) (zh_n h) 0, zh_z (zh_r h) (zh_n h) .null, zh_L h, zh_x h)
/-- new int[N][K] -/
def zh_mn (h : zi_Hp) (N K : Nat) : zi_Hp := (zh_n h + 1 + N, zh_s h + N + N * K, fun b => if b = zh_n h then (105, N) else if zh_n h < b ∧ b ≤ zh_n h + N then (100, K) else zh_k h b, fun b j => if zh_n h ≤ b ∧ b ≤ zh_n h + N then 0 else zh_i h b j, zh_b h, zh_l h, fun b j => if b = zh_n h then .ref (zh_n h + 1 + j) else zh_r h b j, zh_L h, zh_x h)
def zi_bI (b : Bool) : Int32 := match b with
  | true => 1
  | false => 0
/-- what stands at k of cell a, read as of a kind -/
def zi_vd (h : zi_Hp) (t a k : Nat) : Value := match t with
  | 0 => .int (zh_i h a k)
  | 1 => .int (zi_bI (zh_b h a k))
  | 2 => .long (zh_l h a k)
  | _ => zh_r h a k
def zi_wr (h : zi_Hp) (t a k : Nat) (v : Value) : Option zi_Hp := match t, v with
  | 0, .int x => some (zh_wi h a k x)
  | 1, .int x => if x = 0 then some (zh_wb h a k false) else if x = 1 then some (zh_wb h a k true) else none
  | 2, .long x => some (zh_wl h a k x)
  | 3, .ref q => some (zh_wr h a k (.ref q))
  | _, _ => none
abbrev zi_Cf : Type := Nat × List Value × List Value × zi_Hp
abbrev zi_Rt : Type := Option Value × zi_Hp
abbrev zi_Nx : Type := zi_Cf ⊕ zi_Rt ⊕ (Nat × List Value × zi_Cf)
def zi_isR (v : Value) : Bool := match v with
  | .ref _ => true
  | .retAddr n => decide (n < 5)
  | _ => false
def zi_br {α : Type} (c : Jvm.ClassFile.Cond) (x y : Int32) (a b : α) : α := match c with
  | .eq => if x = y then a else b
  | .ne => if x = y then b else a
  | .lt => if x < y then a else b
  | .ge => if x < y then b else a
  | .gt => if y < x then a else b
  | .le => if y < x then b else a
def zi_to (pc : Nat) (off : Int) (ls st : List Value) (h : zi_Hp) : Option zi_Nx := if 0 ≤ (pc : Int) + off then some (.inl (((pc : Int) + off).toNat, ls, st, h)) else none
def zi_at (h : zi_Hp) (a kd : Nat) (j : Int32) : Prop := a < zh_n h ∧ (zh_k h a).1 = kd ∧ ¬ (j < 0 ∨ (zh_k h a).2 ≤ j.toNatClampNeg)
theorem zi_at_dec (h : zi_Hp) (a kd : Nat) (j : Int32) : zi_at h a kd j ∨ ¬ zi_at h a kd j := Classical.em _
def zi_atB (h : zi_Hp) (a kd : Nat) (j : Int32) : Bool := decide (a < zh_n h) && decide ((zh_k h a).1 = kd) && !(decide (j < 0) || decide ((zh_k h a).2 ≤ j.toNatClampNeg))
theorem zi_atB_iff {h : zi_Hp} {a kd : Nat} {j : Int32} : zi_atB h a kd j = true ↔ zi_at h a kd j := by
  simp [zi_atB, zi_at, and_assoc]
def zi_comp (k : Nat) : Nat := match k with
  | 103 => 6
  | 104 => 0
  | _ => 99
/-- how much stands on the stack -/
def zi_cs (st : List Value) : Nat := (st.map Value.category).sum
/-- one instruction -/
def zi_st (I : zi_RI) (pc : Nat) (ls st : List Value) (h : zi_Hp) : Option zi_Nx :=
  match I with
  | (i, _, r1, r2, r3, _, z) =>
  match i with
  | .aload_n n => match ls[n.val]? with
    | some v => if zi_isR v = true then some (.inl (pc + 1, ls, v :: st, h)) else none
    | none => none
  | .aload n => match ls[n]? with
    | some v => if zi_isR v = true then some (.inl (pc + 2, ls, v :: st, h)) else none
    | none => none
  | .iload_n n => match ls[n.val]? with
    | some (.int x) => some (.inl (pc + 1, ls, .int x :: st, h))
    | _ => none
  | .iload n => match ls[n]? with
    | some (.int x) => some (.inl (pc + 2, ls, .int x :: st, h))
    | _ => none
  | .lload_n n => match ls[n.val]? with
    | some (.long x) => if ls[n.val + 1]? = some (.double 1) then some (.inl (pc + 1, ls, .long x :: st, h)) else none
    | _ => none
  | .lload n => match ls[n]? with
    | some (.long x) => if ls[n + 1]? = some (.double 1) then some (.inl (pc + 2, ls, .long x :: st, h)) else none
    | _ => none
  | .istore_n n => match st with
    | .int x :: r => if n.val < ls.length then some (.inl (pc + 1, ls.set n.val (.int x), r, h)) else none
    | _ => none
  | .istore n => match st with
    | .int x :: r => if n < ls.length then some (.inl (pc + 2, ls.set n (.int x), r, h)) else none
    | _ => none
  | .lstore n => match st with
    | .long x :: r => if n + 1 < ls.length then some (.inl (pc + 2, (ls.set n (.long x)).set (n + 1) (.double 1), r, h)) else none
    | _ => none
  | .astore_n n => match st with
    | v :: r => if zi_isR v = true ∧ n.val < ls.length then some (.inl (pc + 1, ls.set n.val v, r, h)) else none
    | _ => none
  | .astore n => match st with
    | v :: r => if zi_isR v = true ∧ n < ls.length then some (.inl (pc + 2, ls.set n v, r, h)) else none
    | _ => none
  | .iinc n d => match ls[n]? with
    | some (.int x) => some (.inl (pc + 3, ls.set n (.int (x + Int32.ofInt d)), st, h))
    | _ => none
  | .iconst n => some (.inl (pc + 1, ls, .int (Int32.ofInt n) :: st, h))
  | .bipush n => some (.inl (pc + 2, ls, .int (Int8.ofInt n).toInt32 :: st, h))
  | .sipush n => some (.inl (pc + 3, ls, .int (Int16.ofInt n).toInt32 :: st, h))
  | .lconst n => some (.inl (pc + 1, ls, .long (Int64.ofNat (n : Nat)) :: st, h))
  | .ldc_w _ => some (.inl (pc + 3, ls, .int (Int32.ofInt z) :: st, h))
  | .ldc2_w _ => some (.inl (pc + 3, ls, .long (Int64.ofInt z) :: st, h))
  | .iadd => match st with
    | .int y :: .int x :: r => some (.inl (pc + 1, ls, .int (x + y) :: r, h))
    | _ => none
  | .isub => match st with
    | .int y :: .int x :: r => some (.inl (pc + 1, ls, .int (x - y) :: r, h))
    | _ => none
  | .imul => match st with
    | .int y :: .int x :: r => some (.inl (pc + 1, ls, .int (x * y) :: r, h))
    | _ => none
  | .idiv => match st with
    | .int y :: .int x :: r => if y = 0 then none else some (.inl (pc + 1, ls, .int (x / y) :: r, h))
    | _ => none
  | .iand => match st with
    | .int y :: .int x :: r => some (.inl (pc + 1, ls, .int (x &&& y) :: r, h))
    | _ => none
  | .ior => match st with
    | .int y :: .int x :: r => some (.inl (pc + 1, ls, .int (x ||| y) :: r, h))
    | _ => none
  | .ishl => match st with
    | .int y :: .int x :: r => some (.inl (pc + 1, ls, .int (x <<< (y &&& 31)) :: r, h))
    | _ => none
  | .ishr => match st with
    | .int y :: .int x :: r => some (.inl (pc + 1, ls, .int (x >>> (y &&& 31)) :: r, h))
    | _ => none
  | .iushr => match st with
    | .int y :: .int x :: r => some (.inl (pc + 1, ls, .int (x.toUInt32 >>> (y.toUInt32 &&& Int32.toUInt32 31)).toInt32 :: r, h))
    | _ => none
  | .i2l => match st with
    | .int x :: r => some (.inl (pc + 1, ls, .long x.toInt64 :: r, h))
    | _ => none
  | .i2b => match st with
    | .int x :: r => some (.inl (pc + 1, ls, .int x.toInt8.toInt32 :: r, h))
    | _ => none
  | .i2s => match st with
    | .int x :: r => some (.inl (pc + 1, ls, .int x.toInt16.toInt32 :: r, h))
    | _ => none
  | .ladd => match st with
    | .long y :: .long x :: r => some (.inl (pc + 1, ls, .long (x + y) :: r, h))
    | _ => none
  | .lmul => match st with
    | .long y :: .long x :: r => some (.inl (pc + 1, ls, .long (x * y) :: r, h))
    | _ => none
  | .ldiv => match st with
    | .long y :: .long x :: r => if y = 0 then none else some (.inl (pc + 1, ls, .long (x / y) :: r, h))
    | _ => none
  | .lrem => match st with
    | .long y :: .long x :: r => if y = 0 then none else some (.inl (pc + 1, ls, .long (x - x / y * y) :: r, h))
    | _ => none
  | .lcmp => match st with
    | .long y :: .long x :: r => some (.inl (pc + 1, ls, .int (lg_cmp x y) :: r, h))
    | _ => none
  | .dup => match st with
    | v :: r => if v.category = 1 then some (.inl (pc + 1, ls, v :: v :: r, h)) else none
    | _ => none
  | .dup2 => match st with
    | v :: w :: r => if v.category = 1 ∧ w.category = 1 then some (.inl (pc + 1, ls, v :: w :: v :: w :: r, h)) else none
    | _ => none
  | .pop => match st with
    | v :: r => if v.category = 1 then some (.inl (pc + 1, ls, r, h)) else none
    | _ => none
  | .pop2 => match st with
    | v :: r => if v.category = 2 then some (.inl (pc + 1, ls, r, h)) else none
    | _ => none
  | .ifCond c off => match st with
    | .int x :: r => zi_br c x 0 (zi_to pc off ls r h) (some (.inl (pc + 3, ls, r, h)))
    | _ => none
  | .if_icmp c off => match st with
    | .int y :: .int x :: r => zi_br c x y (zi_to pc off ls r h) (some (.inl (pc + 3, ls, r, h)))
    | _ => none
  | .goto off => zi_to pc off ls st h
  | .tableswitch dflt lo hi offs => match st with
    | .int x :: r => if x.toInt < lo ∨ hi < x.toInt then zi_to pc dflt ls r h else match offs[(x.toInt - lo).toNat]? with
      | some off => zi_to pc off ls r h
      | none => none
    | _ => none
  | .getfield _ => match st with
    | .ref a :: r => if a < zh_n h ∧ (zh_k h a).1 = r1 then some (.inl (pc + 3, ls, zi_vd h r3 a r2 :: r, h)) else none
    | _ => none
  | .putfield _ => match st with
    | v :: .ref a :: r => if a < zh_n h ∧ (zh_k h a).1 = r1 then match zi_wr h r3 a r2 v with
      | some h2 => some (.inl (pc + 3, ls, r, h2))
      | none => none else none
    | _ => none
  | .new _ => some (.inl (pc + 3, ls, .ref (zh_n h) :: st, zh_al h r1 r2))
  | .newarray _ => match st with
    | .int x :: r => if ¬ x < 0 ∧ x.toNatClampNeg ≤ 10000 then some (.inl (pc + 2, ls, .ref (zh_n h) :: r, zh_al h r1 x.toNatClampNeg)) else none
    | _ => none
  | .anewarray _ => match st with
    | .int x :: r => if ¬ x < 0 ∧ x.toNatClampNeg ≤ 10000 then some (.inl (pc + 3, ls, .ref (zh_n h) :: r, zh_al h r1 x.toNatClampNeg)) else none
    | _ => none
  | .multianewarray _ _ => match st with
    | .int y :: .int x :: r => if (¬ x < 0 ∧ x.toNatClampNeg ≤ 10000) ∧ (¬ y < 0 ∧ y.toNatClampNeg ≤ 10000) then some (.inl (pc + 4, ls, .ref (zh_n h) :: r, zh_mn h x.toNatClampNeg y.toNatClampNeg)) else none
    | _ => none
  | .iaload => match st with
    | .int j :: .ref a :: r => if zi_atB h a 100 j = true then some (.inl (pc + 1, ls, .int (zh_i h a j.toNatClampNeg) :: r, h)) else none
    | .int j :: .retAddr n :: r => if n = 0 ∧ ¬ (j < 0 ∨ zh_L h ≤ j.toNatClampNeg) then some (.inl (pc + 1, ls, .int (zh_x h j.toNatClampNeg) :: r, h)) else none
    | _ => none
  | .baload => match st with
    | .int j :: .ref a :: r => if zi_atB h a 101 j = true then some (.inl (pc + 1, ls, .int (zi_bI (zh_b h a j.toNatClampNeg)) :: r, h)) else none
    | _ => none
  | .laload => match st with
    | .int j :: .ref a :: r => if zi_atB h a 102 j = true then some (.inl (pc + 1, ls, .long (zh_l h a j.toNatClampNeg) :: r, h)) else none
    | _ => none
  | .aaload => match st with
    | .int j :: .ref a :: r => if zi_atB h a 103 j = true ∨ zi_atB h a 104 j = true ∨ zi_atB h a 105 j = true then some (.inl (pc + 1, ls, zh_r h a j.toNatClampNeg :: r, h)) else none
    | _ => none
  | .iastore => match st with
    | .int v :: .int j :: .ref a :: r => if zi_atB h a 100 j = true then some (.inl (pc + 1, ls, r, zh_wi h a j.toNatClampNeg v)) else none
    | _ => none
  | .bastore => match st with
    | .int v :: .int j :: .ref a :: r => if zi_atB h a 101 j = true then match zi_wr h 1 a j.toNatClampNeg (.int v) with
      | some h2 => some (.inl (pc + 1, ls, r, h2))
      | none => none else none
    | _ => none
  | .lastore => match st with
    | .long v :: .int j :: .ref a :: r => if zi_atB h a 102 j = true then some (.inl (pc + 1, ls, r, zh_wl h a j.toNatClampNeg v)) else none
    | _ => none
  | .aastore => match st with
    | .ref q :: .int j :: .ref a :: r => if (zi_atB h a 103 j = true ∨ zi_atB h a 104 j = true) ∧ q < zh_n h ∧ (zh_k h q).1 = zi_comp (zh_k h a).1 then some (.inl (pc + 1, ls, r, zh_wr h a j.toNatClampNeg (.ref q))) else none
    | _ => none
  | .arraylength => match st with
    | .ref a :: r => if a < zh_n h ∧ 100 ≤ (zh_k h a).1 ∧ (zh_k h a).1 < 106 then some (.inl (pc + 1, ls, .int (Int32.ofNat (zh_k h a).2) :: r, h)) else none
    | .retAddr n :: r => if n = 0 then some (.inl (pc + 1, ls, .int (Int32.ofNat (zh_L h)) :: r, h)) else none
    | _ => none
  | .ireturn => match st with
    | [.int x] => if r1 = 0 ∨ x = 0 ∨ x = 1 then some (.inr (.inl (some (.int x), h))) else none
    | _ => none
  | .lreturn => match st with
    | [.long x] => some (.inr (.inl (some (.long x), h)))
    | _ => none
  | .return_ => match st with
    | [] => some (.inr (.inl (none, h)))
    | _ => none
  | .ldc _ => if 1 ≤ r1 ∧ r1 < 5 then some (.inl (pc + 2, ls, .retAddr r1 :: st, h)) else none
  | .invokevirtual _ => if r2 = 0 ∧ z.toNat ≤ st.length ∧ zi_cs (st.drop z.toNat) ≤ 8 then match (st.take z.toNat).reverse with
    | .ref a :: as => if a < zh_n h ∧ (zh_k h a).1 = r3 then some (.inr (.inr (r1, .ref a :: as, (pc + 3, ls, st.drop z.toNat, h)))) else none
    | _ => none
    else match r2, st with
    | 7, .retAddr k :: r => if (1 ≤ k ∧ k < 5) ∧ zi_cs r ≤ 8 then some (.inl (pc + 3, ls, .int (Int32.ofNat (zi_sl k)) :: r, h)) else none
    | 8, .int j :: .retAddr k :: r => if (1 ≤ k ∧ k < 5) ∧ ¬ (j < 0 ∨ zi_sl k ≤ j.toNatClampNeg) ∧ zi_cs r ≤ 8 then some (.inl (pc + 3, ls, .int (zi_sc k j.toNatClampNeg) :: r, h)) else none
    | _, _ => none
  | .invokestatic _ => if (r2 = 1 ∨ r2 = 5) ∧ z.toNat ≤ st.length ∧ zi_cs (st.drop z.toNat) ≤ 8 then some (.inr (.inr (r1, (st.take z.toNat).reverse, (pc + 3, ls, st.drop z.toNat, h))))
    else match r2, st with
    | 6, .int n :: .int dp :: .ref d :: .int sp :: .ref s :: r => if zi_cs r ≤ 8 ∧ s < zh_n h ∧ d < zh_n h ∧ ¬ sp < 0 ∧ ¬ dp < 0 ∧ ¬ n < 0 ∧ sp.toNatClampNeg + n.toNatClampNeg ≤ (zh_k h s).2 ∧ dp.toNatClampNeg + n.toNatClampNeg ≤ (zh_k h d).2 then
        if (zh_k h s).1 = 100 ∧ (zh_k h d).1 = 100 then some (.inl (pc + 3, ls, r, zh_ci h s sp.toNatClampNeg d dp.toNatClampNeg n.toNatClampNeg))
        else if (zh_k h s).1 = 101 ∧ (zh_k h d).1 = 101 then some (.inl (pc + 3, ls, r, zh_cb h s sp.toNatClampNeg d dp.toNatClampNeg n.toNatClampNeg)) else none
      else none
    | 9, .int y :: .int x :: r => if zi_cs r ≤ 8 then some (.inl (pc + 3, ls, .int (if x < y then y else x) :: r, h)) else none
    | 10, .int y :: .int x :: r => if zi_cs r ≤ 8 then some (.inl (pc + 3, ls, .int (if y < x then y else x) :: r, h)) else none
    | _, _ => none
  | .invokespecial _ => if r2 = 3 then match st with
      | .ref _ :: r => if zi_cs r ≤ 8 then some (.inl (pc + 3, ls, r, h)) else none
      | _ => none
    else if (r2 = 2 ∨ r2 = 4) ∧ z.toNat ≤ st.length ∧ zi_cs (st.drop z.toNat) ≤ 8 then match (st.take z.toNat).reverse with
    | .ref a :: as => some (.inr (.inr (r1, .ref a :: as, (pc + 3, ls, st.drop z.toNat, h))))
    | _ => none else none
  | _ => none
/-- a method's first locals -/
def zi_ex (as : List Value) : List Value := as.flatMap fun v => if v.category = 2 then [v, .double 1] else [v]
def zi_en (M : Nat) (as : List Value) : List Value := match zi_M[M]? with
  | some mi => zi_ex as ++ List.replicate (mi.2.2.1 - (zi_ex as).length) (.double 0)
  | none => []
def zi_rk (M : Nat) (as : List Value) : Nat := match M, as with
  | 72, _ :: .int d :: _ => 6 + (8 - d.toNatClampNeg)
  | _, _ => match zi_M[M]? with
    | some mi => mi.2.2.2.2.2.1
    | none => 0
def zi_fit (M : Nat) (as : List Value) : Bool := match zi_M[M]? with
  | some mi => decide ((zi_ex as).length ≤ mi.2.2.1)
  | none => false
def zi_go : Nat → Nat → Nat → zi_Cf → Option zi_Rt
  | 0, _, _, _ => none
  | n + 1, k, M, c => match zi_fe M c.1 with
    | none => none
    | some I => match zi_st I c.1 c.2.1 c.2.2.1 c.2.2.2 with
      | none => none
      | some (.inl c2) => zi_go n k M c2
      | some (.inr (.inl r)) => some r
      | some (.inr (.inr (M2, as, c2))) => if zi_rk M2 as < k ∧ zi_fit M2 as = true then match zi_go n (zi_rk M2 as) M2 (0, zi_en M2 as, [], c2.2.2.2) with
          | none => none
          | some r => zi_go n k M (c2.1, c2.2.1, r.1.toList ++ c2.2.2.1, r.2)
        else none
theorem zi_go_s (n k M : Nat) (c : zi_Cf) : zi_go (n + 1) k M c = match zi_fe M c.1 with
    | none => none
    | some I => match zi_st I c.1 c.2.1 c.2.2.1 c.2.2.2 with
      | none => none
      | some (.inl c2) => zi_go n k M c2
      | some (.inr (.inl r)) => some r
      | some (.inr (.inr (M2, as, c2))) => if zi_rk M2 as < k ∧ zi_fit M2 as = true then match zi_go n (zi_rk M2 as) M2 (0, zi_en M2 as, [], c2.2.2.2) with
          | none => none
          | some r => zi_go n k M (c2.1, c2.2.1, r.1.toList ++ c2.2.2.1, r.2)
        else none := rfl
theorem zi_mono : ∀ (n k M : Nat) (c : zi_Cf) (r : zi_Rt), zi_go n k M c = some r → zi_go (n + 1) k M c = some r := by
  intro n
  induction n with
  | zero => intro k M c r h; cases h
  | succ n ih =>
    intro k M c r h
    rw [zi_go_s] at h ⊢
    cases hf : zi_fe M c.1 with
    | none => rw [hf] at h; cases h
    | some I =>
      rw [hf] at h
      dsimp only at h ⊢
      cases hs : zi_st I c.1 c.2.1 c.2.2.1 c.2.2.2 with
      | none => rw [hs] at h; cases h
      | some x =>
        rw [hs] at h
        rcases x with c2 | r2 | ⟨M2, as, c2⟩
        · exact ih k M c2 r h
        · exact h
        · dsimp only at h ⊢
          by_cases hr : zi_rk M2 as < k ∧ zi_fit M2 as = true
          · rw [if_pos hr] at h ⊢
            cases hg : zi_go n (zi_rk M2 as) M2 (0, zi_en M2 as, [], c2.2.2.2) with
            | none => rw [hg] at h; cases h
            | some q =>
              rw [hg] at h
              rw [ih _ _ _ _ hg]
              exact ih _ _ _ _ h
          · rw [if_neg hr] at h; cases h
theorem zi_mono_le {n m k M : Nat} {c : zi_Cf} {r : zi_Rt} (h : zi_go n k M c = some r) (hm : n ≤ m) : zi_go m k M c = some r := by
  induction hm with
  | refl => exact h
  | step _ ih => exact zi_mono _ _ _ _ _ ih
/-- what a run comes to -/
noncomputable def zv (k M pc : Nat) (ls st : List Value) (h : zi_Hp) : Option zi_Rt := by
  classical exact if e : ∃ r n, zi_go n k M (pc, ls, st, h) = some r then some (Classical.choose e) else none
theorem zv_iff {k M pc : Nat} {ls st : List Value} {h : zi_Hp} {r : zi_Rt} : zv k M pc ls st h = some r ↔ ∃ n, zi_go n k M (pc, ls, st, h) = some r := by
  classical
  unfold zv
  by_cases e : ∃ r n, zi_go n k M (pc, ls, st, h) = some r
  · rw [dif_pos e]
    have hc := Classical.choose_spec e
    obtain ⟨n, hn⟩ := hc
    constructor
    · intro q
      cases q
      exact ⟨n, hn⟩
    · rintro ⟨m, hm⟩
      have h1 := zi_mono_le hn (Nat.le_max_left n m)
      have h2 := zi_mono_le hm (Nat.le_max_right n m)
      rw [h1] at h2
      exact h2
  · rw [dif_neg e]
    constructor
    · intro q; cases q
    · rintro ⟨m, hm⟩
      exact absurd ⟨r, m, hm⟩ e
theorem zv_ext {a b : Option zi_Rt} (h : ∀ r, a = some r ↔ b = some r) : a = b := by
  cases a with
  | none =>
    cases b with
    | none => rfl
    | some x => exact absurd ((h x).mpr rfl) (by simp)
  | some x => exact ((h x).mp rfl).symm
theorem zv_next {k M pc pc2 : Nat} {ls st ls2 st2 : List Value} {h h2 : zi_Hp} {I : zi_RI} (hf : zi_fe M pc = some I) (hs : zi_st I pc ls st h = some (.inl (pc2, ls2, st2, h2))) : zv k M pc ls st h = zv k M pc2 ls2 st2 h2 := by
  apply zv_ext
  intro r
  rw [zv_iff, zv_iff]
  have e : ∀ n, zi_go (n + 1) k M (pc, ls, st, h) = zi_go n k M (pc2, ls2, st2, h2) := by
    intro n
    rw [zi_go_s]
    dsimp only
    rw [hf]
    dsimp only
    rw [hs]
  constructor
  · rintro ⟨n, hn⟩
    exact ⟨n, by rw [← e]; exact zi_mono _ _ _ _ _ hn⟩
  · rintro ⟨n, hn⟩
    exact ⟨n + 1, by rw [e]; exact hn⟩
theorem zv_ret {k M pc : Nat} {ls st : List Value} {h : zi_Hp} {I : zi_RI} {r : zi_Rt} (hf : zi_fe M pc = some I) (hs : zi_st I pc ls st h = some (.inr (.inl r))) : zv k M pc ls st h = some r := by
  rw [zv_iff]
  refine ⟨1, ?_⟩
  rw [zi_go_s]
  dsimp only
  rw [hf]
  dsimp only
  rw [hs]
theorem zv_call {k M pc pc2 M2 : Nat} {as ls st ls2 st2 : List Value} {h h2 : zi_Hp} {I : zi_RI} (hf : zi_fe M pc = some I) (hs : zi_st I pc ls st h = some (.inr (.inr (M2, as, (pc2, ls2, st2, h2))))) (hr : zi_rk M2 as < k ∧ zi_fit M2 as = true) :
    zv k M pc ls st h = (zv (zi_rk M2 as) M2 0 (zi_en M2 as) [] h2).bind fun r => zv k M pc2 ls2 (r.1.toList ++ st2) r.2 := by
  apply zv_ext
  intro r
  have e : ∀ n, zi_go (n + 1) k M (pc, ls, st, h) = match zi_go n (zi_rk M2 as) M2 (0, zi_en M2 as, [], h2) with
      | none => none
      | some r => zi_go n k M (pc2, ls2, r.1.toList ++ st2, r.2) := by
    intro n
    rw [zi_go_s]
    dsimp only
    rw [hf]
    dsimp only
    rw [hs]
    dsimp only
    rw [if_pos hr]
  rw [zv_iff, Option.bind_eq_some_iff]
  constructor
  · rintro ⟨n, hn⟩
    have hn := zi_mono _ _ _ _ _ hn
    rw [e] at hn
    cases hg : zi_go n (zi_rk M2 as) M2 (0, zi_en M2 as, [], h2) with
    | none => rw [hg] at hn; cases hn
    | some q =>
      rw [hg] at hn
      exact ⟨q, zv_iff.mpr ⟨n, hg⟩, zv_iff.mpr ⟨n, hn⟩⟩
  · rintro ⟨q, h1, h3⟩
    obtain ⟨a, ha⟩ := zv_iff.mp h1
    obtain ⟨b, hb⟩ := zv_iff.mp h3
    refine ⟨max a b + 1, ?_⟩
    rw [e, zi_mono_le ha (Nat.le_max_left a b)]
    exact zi_mono_le hb (Nat.le_max_right a b)
