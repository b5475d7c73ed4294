/-- the kind of a field: 0 int, 1 boolean, 2 long, 3 a reference -/
def zi_tg : Nat → Nat → Nat := fun c k => match c with
  | 0 => match k with
    | 11 => 1
    | 12 => 3
    | _ => 0
  | 1 => match k with
    | 5 => 3
    | 6 => 3
    | 7 => 3
    | 8 => 1
    | _ => 0
  | 2 => match k with
    | 0 => 3
    | 1 => 3
    | 2 => 3
    | _ => 0
  | 3 => match k with
    | 0 => 3
    | _ => 0
  | 4 => match k with
    | 3 => 3
    | 4 => 3
    | 5 => 3
    | 6 => 3
    | 7 => 3
    | 8 => 3
    | 9 => 3
    | _ => 0
  | 5 => match k with
    | 0 => 3
    | 8 => 2
    | _ => 0
  | 6 => match k with
    | 0 => 3
    | 1 => 3
    | _ => 0
  | 7 => match k with
    | 0 => 3
    | 1 => 3
    | 2 => 3
    | 3 => 3
    | 4 => 3
    | 5 => 3
    | 6 => 3
    | 7 => 3
    | _ => 0
  | 8 => match k with
    | 0 => 3
    | 1 => 3
    | 2 => 3
    | 3 => 3
    | 4 => 3
    | 6 => 3
    | 7 => 3
    | 15 => 1
    | 17 => 3
    | 19 => 3
    | 21 => 3
    | 22 => 3
    | 23 => 3
    | 24 => 3
    | 25 => 3
    | 26 => 3
    | 32 => 3
    | 33 => 3
    | 34 => 3
    | 35 => 3
    | 36 => 3
    | 37 => 3
    | _ => 0
  | _ => 9
def zi_own (o : Nat) : String := zi_cn.getD o ""
def zi_T (c : Nat) : u_T := match c with
  | 0 => TX0 | 1 => TX1 | 2 => TX2 | 3 => TX3 | 4 => TX4 | 5 => TX5 | 6 => TX6 | 7 => TX7 | _ => TX8
def zi_ty (c : Nat) : Nat → FieldType := match c with
  | 0 => tyX0 | 1 => tyX1 | 2 => tyX2 | 3 => tyX3 | 4 => tyX4 | 5 => tyX5 | 6 => tyX6 | 7 => tyX7 | _ => tyX8
def zi_Nf (c : Nat) : Nat := match c with
  | 0 => 13 | 1 => 9 | 2 => 3 | 3 => 6 | 4 => 10 | 5 => 13 | 6 => 2 | 7 => 9 | 8 => 39 | _ => 0
/-- the texts that the program names: where, what, how long, their bytes -/
def zi_sx (k : Nat) : Nat := match k with
  | 1 => 62 | 2 => 71 | 3 => 77 | _ => 79
def zi_tx (k : Nat) : String := match k with
  | 1 => "room" | 2 => "put" | 3 => "take" | _ => "find"
def zi_sl (k : Nat) : Nat := match k with
  | 1 => 4 | 2 => 3 | 3 => 4 | 4 => 4 | _ => 0
def zi_sbl (k : Nat) : List Int32 := match k with
  | 1 => [114, 111, 111, 109] | 2 => [112, 117, 116] | 3 => [116, 97, 107, 101] | 4 => [102, 105, 110, 100] | _ => []
def zi_sc (k j : Nat) : Int32 := (zi_sbl k).getD j 0
def zj_yL : MethodName := ⟨"java/lang/String", "length", "()I"⟩
def zj_yC : MethodName := ⟨"java/lang/String", "charAt", "(I)C"⟩
def zi_wd (p : Nat) (w : Jvm.Cond) : Bool := decide (lw_tbl[p]? = some w)
def zi_yM (i : Nat) : MethodName := match zi_M[i]? with
  | some mi => mi.1
  | none => ⟨"", "", ""⟩
/-- the kind of an array's cells: its type -/
def zi_aty (k : Nat) : FieldType := match k with
  | 0 => .int | 1 => .boolean | 2 => .long | 3 => .object "LinkTree$World" | 4 => .object "LinkTree$Client" | _ => .array .int
/-- the method that a call names: its kind, its class, its arguments -/
def zi_cal (i kd ow : Nat) (na : Int) : Bool := match zi_M[i]? with
  | some mi => decide (mi.2.2.2.2.2.2.2.1 = kd) && decide (mi.2.2.2.2.1 = ow) && decide ((mi.2.2.2.2.2.2.1 : Int) = na)
  | none => false
/-- its length -/
def zi_ln (i : Instr) (len : Nat) : Bool := match i with
  | .aload _ | .iload _ | .lload _ | .istore _ | .astore _ | .lstore _ | .bipush _ | .newarray _ | .ldc _ => decide (len = 2)
  | .iinc _ _ | .sipush _ | .ifCond _ _ | .if_icmp _ _ | .goto _ | .getfield _ | .putfield _ | .invokevirtual _ | .invokestatic _ | .invokespecial _ | .new _ | .anewarray _ | .ldc_w _ | .ldc2_w _ => decide (len = 3)
  | .multianewarray _ _ => decide (len = 4)
  | .tableswitch _ _ _ _ => true
  | _ => decide (len = 1)
/-- one instruction: its bytes decode to it, and its word stands in the tables -/
def zi_okI (code : ByteArray) (own : Nat) (ini : Bool) (rt : Option FieldType) (x : Nat × zi_RI) : Bool :=
  match x with
  | (pc, i, len, r1, r2, r3, pi, z) =>
    decide (decode code pc = .ok (i, len)) && zi_ln i len &&
    match i with
    | .getfield ix => decide (r1 < 9) && decide (r2 < zi_Nf r1) && zi_wd pi (.fieldLink (zi_own own) ix (zi_T r1 r2).1 (zi_T r1 r2).2.1 (zi_T r1 r2).2.2.1) && decide (zi_tg r1 r2 = r3)
    | .putfield ix => decide (r1 < 9) && decide (r2 < zi_Nf r1) && zi_wd pi (.fieldLink (zi_own own) ix (zi_T r1 r2).1 (zi_T r1 r2).2.1 (zi_T r1 r2).2.2.1) && decide (zi_tg r1 r2 = r3) && (!(zi_T r1 r2).2.2.2 || (ini && decide ((zi_T r1 r2).1 = zi_own own)))
    | .new ix => decide (r1 < 9) && decide (r2 = zi_Nf r1) && zi_wd pi (.classLink (zi_own own) ix (zi_own r1)) && zi_wd r3 (.instantiable (zi_own r1) r2)
    | .newarray t => decide (100 ≤ r1) && decide (r1 < 103) && decide (newarray.typeOf t = zi_aty (r1 - 100)) && zi_wd pi (.arrayClass (zi_aty (r1 - 100)))
    | .anewarray ix => (match r1 with
      | 103 => zi_wd pi (.classLink (zi_own own) ix "LinkTree$World") && zi_wd r3 (.arrayOver (.object "LinkTree$World"))
      | 104 => zi_wd pi (.classLink (zi_own own) ix "LinkTree$Client") && zi_wd r3 (.arrayOver (.object "LinkTree$Client"))
      | _ => false)
    | .multianewarray ix d => decide (d = 2) && zi_wd pi (.classLink (zi_own own) ix ("[" ++ (FieldType.array .int).toString)) && zi_wd r2 (.arrayClass .int) && zi_wd r3 (.arrayOver (.array .int))
    | .ldc_w ix => zi_wd pi (.constant (zi_own own) ix (Int32.ofInt z))
    | .ldc2_w ix => zi_wd pi (.constantLong (zi_own own) ix (Int64.ofInt z))
    | .ldc ix => decide (own = 1) && decide (ix = zi_sx r1) && zi_wd pi (.stringRef (zi_own own) ix (zi_tx r1))
    | .invokevirtual ix => (decide (r2 = 7) && zi_wd pi (.methodLink (zi_own own) ix zj_yL)) || (decide (r2 = 8) && zi_wd pi (.methodLink (zi_own own) ix zj_yC)) || (decide (r2 = 0) && zi_cal r1 0 r3 z && zi_wd pi (.methodLink (zi_own own) ix (zi_yM r1)))
    | .invokestatic ix => (decide (r2 = 6) && zi_wd pi (.methodLink (zi_own own) ix arraycopyName)) || (decide (r2 = 1) && zi_cal r1 1 r3 z && zi_wd pi (.methodLink (zi_own own) ix (zi_yM r1))) || (decide (r2 = 9) && zi_wd pi (.methodLink (zi_own own) ix Lib.Math.max.name)) || (decide (r2 = 10) && zi_wd pi (.methodLink (zi_own own) ix Lib.Math.min.name)) || (decide (r2 = 5) && zi_cal r1 1 r3 z && zi_wd pi (.methodLinkNest (zi_own own) ix (zi_yM r1) "LinkTree"))
    | .invokespecial ix => (decide (r2 = 3) && zi_wd pi (.methodLink (zi_own own) ix objectInit)) || (decide (r2 = 2) && zi_cal r1 2 r3 z && zi_wd pi (.methodLink (zi_own own) ix (zi_yM r1))) || (decide (r2 = 4) && zi_cal r1 2 r3 z && zi_wd pi (.methodLinkNest (zi_own own) ix (zi_yM r1) "LinkTree"))
    | .ireturn => match r1 with
      | 0 => decide (rt = some .int)
      | 1 => decide (rt = some .boolean)
      | _ => false
    | .ifCond _ off => decide (0 ≤ (pc : Int) + off)
    | .if_icmp _ off => decide (0 ≤ (pc : Int) + off)
    | .goto off => decide (0 ≤ (pc : Int) + off)
    | .lreturn => decide (rt = some .long)
    | .return_ => decide (rt = none)
    | _ => true
/-- a method's words stand in the tables -/
def zi_okW (mi : zi_MI) : Bool :=
  match mi with
  | (y, code, maxL, rt, own, _, na, kd, pC, pI, pS, pN, _) =>
    decide (zi_own own = y.cls) && decide (own < 13) &&
    (decide (kd = 3) ||
      (zi_wd pC (.code y code maxL rt) && zi_wd pN (.initialized y.cls) && decide (maxL ≤ 40) && decide (own ≠ 11) &&
      (match kd with
      | 0 => zi_wd pI (.instanceMethod y) && zi_wd pS (.selects y.cls y y) && decide ((parseMethodDescriptor y.desc).map (fun d => d.parameters.length + 1) = some na) && decide (own < 9)
      | 1 => zi_wd pI (.static y) && decide ((parseMethodDescriptor y.desc).map (fun d => d.parameters.length) = some na)
      | 2 => zi_wd pI (.instanceMethod y) && decide ((parseMethodDescriptor y.desc).map (fun d => d.parameters.length + 1) = some na) && decide (y.name = "<init>") && decide (rt = none)
      | _ => false)))
/-- a method: its words stand in the tables, its instructions are as they are read -/
def zi_okM (mi : zi_MI) : Bool := mi.2.2.2.2.2.2.2.2.2.2.2.2.all (zi_okI mi.2.1 mi.2.2.2.2.1 (decide (mi.1.name = "<init>")) mi.2.2.2.1) && zi_okW mi
def zi_okCl (o : Nat) : Bool := decide (o = 11) || (plainName (zi_own o) && decide (zi_own o ≠ "java/lang/invoke/MethodHandle") && decide (zi_own o ≠ "java/lang/invoke/VarHandle"))
theorem zi_all_app {α : Type} {f : α → Bool} {a b : List α} (ha : a.all f = true) (hb : b.all f = true) : (a ++ b).all f = true := by
  rw [List.all_append, ha, hb]; rfl
theorem zi_okM_of {mi : zi_MI} (h1 : mi.2.2.2.2.2.2.2.2.2.2.2.2.all (zi_okI mi.2.1 mi.2.2.2.2.1 (decide (mi.1.name = "<init>")) mi.2.2.2.1) = true) (h2 : zi_okW mi = true) : zi_okM mi = true := by
  unfold zi_okM; rw [h1, h2]; rfl
