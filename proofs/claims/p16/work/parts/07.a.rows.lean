def zq (v : Value) : Nat := match v with
  | .ref q => q
  | _ => 0
theorem zq_ref (q : Nat) : zq (.ref q) = q := rfl
/-! ROWS OF THE READING MACHINE, for walks over terms -/
section ZROWS
variable {k M pc : Nat} {ls st : List Value} {h : zi_Hp} {len r1 r2 r3 pi : Nat} {z : Int}
theorem zs_getf {ix a : Nat} (hf : zi_fe M pc = some (.getfield ix, len, r1, r2, r3, pi, z)) (ha : a < zh_n h) (hk : (zh_k h a).1 = r1) : zv k M pc ls (.ref a :: st) h = zv k M (pc + 3) ls (zi_vd h r3 a r2 :: st) h := zv_next hf (by show (if _ then _ else _) = _; rw [if_pos ⟨ha, hk⟩])
theorem zs_getr {ix a q : Nat} (hf : zi_fe M pc = some (.getfield ix, len, r1, r2, 3, pi, z)) (ha : a < zh_n h) (hk : (zh_k h a).1 = r1) (hr : zh_r h a r2 = .ref q) : zv k M pc ls (.ref a :: st) h = zv k M (pc + 3) ls (.ref q :: st) h := by
  rw [zs_getf hf ha hk]
  show zv k M (pc + 3) ls (zh_r h a r2 :: st) h = _
  rw [hr]
theorem zs_put {ix a : Nat} {v : Value} {h2 : zi_Hp} (hf : zi_fe M pc = some (.putfield ix, len, r1, r2, r3, pi, z)) (ha : a < zh_n h) (hk : (zh_k h a).1 = r1) (hw : zi_wr h r3 a r2 v = some h2) : zv k M pc ls (v :: .ref a :: st) h = zv k M (pc + 3) ls st h2 := zv_next hf (by show (if _ then _ else _) = _; rw [if_pos ⟨ha, hk⟩, hw])
theorem zw_b (a j : Nat) (w : Bool) : zi_wr h 1 a j (.int (zi_bI w)) = some (zh_wb h a j w) := by cases w <;> rfl
theorem zw_d (a j : Nat) {x : Int32} (hx : x = 0 ∨ x = 1) : zi_wr h 1 a j (.int x) = some (zh_wb h a j (decide (x = 1))) := by rcases hx with rfl | rfl <;> rfl
theorem zw_0 (a j : Nat) : zi_wr h 1 a j (.int 0) = some (zh_wb h a j false) := rfl
theorem zw_1 (a j : Nat) : zi_wr h 1 a j (.int 1) = some (zh_wb h a j true) := rfl
theorem zs_atB {a kd : Nat} {j : Int32} (ha : a < zh_n h) (hk : (zh_k h a).1 = kd) (hj : ¬ (j < 0 ∨ (zh_k h a).2 ≤ j.toNatClampNeg)) : zi_atB h a kd j = true := zi_atB_iff.mpr ⟨ha, hk, hj⟩
theorem zs_iald {a : Nat} {j : Int32} (hf : zi_fe M pc = some (.iaload, len, r1, r2, r3, pi, z)) (ha : a < zh_n h) (hk : (zh_k h a).1 = 100) (hj : ¬ (j < 0 ∨ (zh_k h a).2 ≤ j.toNatClampNeg)) : zv k M pc ls (.int j :: .ref a :: st) h = zv k M (pc + 1) ls (.int (zh_i h a j.toNatClampNeg) :: st) h := zv_next hf (by show (if _ then _ else _) = _; rw [if_pos (zs_atB ha hk hj)])
theorem zs_bald {a : Nat} {j : Int32} (hf : zi_fe M pc = some (.baload, len, r1, r2, r3, pi, z)) (ha : a < zh_n h) (hk : (zh_k h a).1 = 101) (hj : ¬ (j < 0 ∨ (zh_k h a).2 ≤ j.toNatClampNeg)) : zv k M pc ls (.int j :: .ref a :: st) h = zv k M (pc + 1) ls (.int (zi_bI (zh_b h a j.toNatClampNeg)) :: st) h := zv_next hf (by show (if _ then _ else _) = _; rw [if_pos (zs_atB ha hk hj)])
theorem zs_lald {a : Nat} {j : Int32} (hf : zi_fe M pc = some (.laload, len, r1, r2, r3, pi, z)) (ha : a < zh_n h) (hk : (zh_k h a).1 = 102) (hj : ¬ (j < 0 ∨ (zh_k h a).2 ≤ j.toNatClampNeg)) : zv k M pc ls (.int j :: .ref a :: st) h = zv k M (pc + 1) ls (.long (zh_l h a j.toNatClampNeg) :: st) h := zv_next hf (by show (if _ then _ else _) = _; rw [if_pos (zs_atB ha hk hj)])
theorem zs_aald {a q : Nat} {j : Int32} (hf : zi_fe M pc = some (.aaload, len, r1, r2, r3, pi, z)) (ha : a < zh_n h) (hk : (zh_k h a).1 = 103 ∨ (zh_k h a).1 = 104 ∨ (zh_k h a).1 = 105) (hj : ¬ (j < 0 ∨ (zh_k h a).2 ≤ j.toNatClampNeg)) (hr : zh_r h a j.toNatClampNeg = .ref q) : zv k M pc ls (.int j :: .ref a :: st) h = zv k M (pc + 1) ls (.ref q :: st) h := by
  rw [← hr]
  exact zv_next hf (by show (if _ then _ else _) = _; rw [if_pos (by rcases hk with h1 | h1 | h1; exact Or.inl (zs_atB ha h1 hj); exact Or.inr (Or.inl (zs_atB ha h1 hj)); exact Or.inr (Or.inr (zs_atB ha h1 hj)))])
theorem zs_sald {j : Int32} (hf : zi_fe M pc = some (.iaload, len, r1, r2, r3, pi, z)) (hj : ¬ (j < 0 ∨ zh_L h ≤ j.toNatClampNeg)) : zv k M pc ls (.int j :: .retAddr 0 :: st) h = zv k M (pc + 1) ls (.int (zh_x h j.toNatClampNeg) :: st) h := zv_next hf (by show (if _ then _ else _) = _; rw [if_pos ⟨rfl, hj⟩])
theorem zs_iast {a : Nat} {j v : Int32} (hf : zi_fe M pc = some (.iastore, len, r1, r2, r3, pi, z)) (ha : a < zh_n h) (hk : (zh_k h a).1 = 100) (hj : ¬ (j < 0 ∨ (zh_k h a).2 ≤ j.toNatClampNeg)) : zv k M pc ls (.int v :: .int j :: .ref a :: st) h = zv k M (pc + 1) ls st (zh_wi h a j.toNatClampNeg v) := zv_next hf (by show (if _ then _ else _) = _; rw [if_pos (zs_atB ha hk hj)])
theorem zs_last {a : Nat} {j : Int32} {v : Int64} (hf : zi_fe M pc = some (.lastore, len, r1, r2, r3, pi, z)) (ha : a < zh_n h) (hk : (zh_k h a).1 = 102) (hj : ¬ (j < 0 ∨ (zh_k h a).2 ≤ j.toNatClampNeg)) : zv k M pc ls (.long v :: .int j :: .ref a :: st) h = zv k M (pc + 1) ls st (zh_wl h a j.toNatClampNeg v) := zv_next hf (by show (if _ then _ else _) = _; rw [if_pos (zs_atB ha hk hj)])
theorem zs_bast {a : Nat} {j v : Int32} {h2 : zi_Hp} (hf : zi_fe M pc = some (.bastore, len, r1, r2, r3, pi, z)) (ha : a < zh_n h) (hk : (zh_k h a).1 = 101) (hj : ¬ (j < 0 ∨ (zh_k h a).2 ≤ j.toNatClampNeg)) (hw : zi_wr h 1 a j.toNatClampNeg (.int v) = some h2) : zv k M pc ls (.int v :: .int j :: .ref a :: st) h = zv k M (pc + 1) ls st h2 := zv_next hf (by show (if _ then _ else _) = _; rw [if_pos (zs_atB ha hk hj), hw])
theorem zs_aast {a q : Nat} {j : Int32} (hf : zi_fe M pc = some (.aastore, len, r1, r2, r3, pi, z)) (ha : a < zh_n h) (hk : (zh_k h a).1 = 103 ∨ (zh_k h a).1 = 104) (hj : ¬ (j < 0 ∨ (zh_k h a).2 ≤ j.toNatClampNeg)) (hq : q < zh_n h) (hqk : (zh_k h q).1 = zi_comp (zh_k h a).1) : zv k M pc ls (.ref q :: .int j :: .ref a :: st) h = zv k M (pc + 1) ls st (zh_wr h a j.toNatClampNeg (.ref q)) := by
  exact zv_next hf (by show (if _ then _ else _) = _; rw [if_pos ⟨by rcases hk with h1 | h1; exact Or.inl (zs_atB ha h1 hj); exact Or.inr (zs_atB ha h1 hj), hq, hqk⟩])
theorem zs_alen {a : Nat} (hf : zi_fe M pc = some (.arraylength, len, r1, r2, r3, pi, z)) (ha : a < zh_n h) (hk : 100 ≤ (zh_k h a).1 ∧ (zh_k h a).1 < 106) : zv k M pc ls (.ref a :: st) h = zv k M (pc + 1) ls (.int (Int32.ofNat (zh_k h a).2) :: st) h := zv_next hf (by show (if _ then _ else _) = _; rw [if_pos ⟨ha, hk⟩])
theorem zs_idiv {x y : Int32} (hf : zi_fe M pc = some (.idiv, len, r1, r2, r3, pi, z)) (hy : ¬ y = 0) : zv k M pc ls (.int y :: .int x :: st) h = zv k M (pc + 1) ls (.int (x / y) :: st) h := zv_next hf (by show (if _ then _ else _) = _; rw [if_neg hy])
theorem zs_ldiv {x y : Int64} (hf : zi_fe M pc = some (.ldiv, len, r1, r2, r3, pi, z)) (hy : ¬ y = 0) : zv k M pc ls (.long y :: .long x :: st) h = zv k M (pc + 1) ls (.long (x / y) :: st) h := zv_next hf (by show (if _ then _ else _) = _; rw [if_neg hy])
theorem zs_lrem {x y : Int64} (hf : zi_fe M pc = some (.lrem, len, r1, r2, r3, pi, z)) (hy : ¬ y = 0) : zv k M pc ls (.long y :: .long x :: st) h = zv k M (pc + 1) ls (.long (x - x / y * y) :: st) h := zv_next hf (by show (if _ then _ else _) = _; rw [if_neg hy])
theorem zs_br {cd : Jvm.ClassFile.Cond} {x y : Int32} {I : zi_RI} {tgt : Nat} {st' : List Value} (hf : zi_fe M pc = some I) (hs : zi_st I pc ls st h = zi_br cd x y (some (.inl (tgt, ls, st', h))) (some (.inl (pc + 3, ls, st', h)))) : zv k M pc ls st h = zi_br cd x y (zv k M tgt ls st' h) (zv k M (pc + 3) ls st' h) := by
  cases cd with
  | eq =>
    by_cases q : x = y
    · rw [zv_next hf (hs.trans (if_pos q))]; exact (if_pos q).symm
    · rw [zv_next hf (hs.trans (if_neg q))]; exact (if_neg q).symm
  | ne =>
    by_cases q : x = y
    · rw [zv_next hf (hs.trans (if_pos q))]; exact (if_pos q).symm
    · rw [zv_next hf (hs.trans (if_neg q))]; exact (if_neg q).symm
  | lt =>
    by_cases q : x < y
    · rw [zv_next hf (hs.trans (if_pos q))]; exact (if_pos q).symm
    · rw [zv_next hf (hs.trans (if_neg q))]; exact (if_neg q).symm
  | ge =>
    by_cases q : x < y
    · rw [zv_next hf (hs.trans (if_pos q))]; exact (if_pos q).symm
    · rw [zv_next hf (hs.trans (if_neg q))]; exact (if_neg q).symm
  | gt =>
    by_cases q : y < x
    · rw [zv_next hf (hs.trans (if_pos q))]; exact (if_pos q).symm
    · rw [zv_next hf (hs.trans (if_neg q))]; exact (if_neg q).symm
  | le =>
    by_cases q : y < x
    · rw [zv_next hf (hs.trans (if_pos q))]; exact (if_pos q).symm
    · rw [zv_next hf (hs.trans (if_neg q))]; exact (if_neg q).symm
theorem zt_to {off : Int} {tgt : Nat} (h0 : (pc : Int) + off = (tgt : Int)) : zi_to pc off ls st h = some (.inl (tgt, ls, st, h)) := by
  unfold zi_to
  rw [h0, if_pos (Int.natCast_nonneg tgt)]
  rfl
theorem zs_if {cd : Jvm.ClassFile.Cond} {off : Int} {tgt : Nat} {x : Int32} (hf : zi_fe M pc = some (.ifCond cd off, len, r1, r2, r3, pi, z)) (h0 : (pc : Int) + off = (tgt : Int)) : zv k M pc ls (.int x :: st) h = zi_br cd x 0 (zv k M tgt ls st h) (zv k M (pc + 3) ls st h) := zs_br hf (by show zi_br cd x 0 (zi_to pc off ls st h) _ = _; rw [zt_to h0])
theorem zs_icmp {cd : Jvm.ClassFile.Cond} {off : Int} {tgt : Nat} {x y : Int32} (hf : zi_fe M pc = some (.if_icmp cd off, len, r1, r2, r3, pi, z)) (h0 : (pc : Int) + off = (tgt : Int)) : zv k M pc ls (.int y :: .int x :: st) h = zi_br cd x y (zv k M tgt ls st h) (zv k M (pc + 3) ls st h) := zs_br hf (by show zi_br cd x y (zi_to pc off ls st h) _ = _; rw [zt_to h0])
theorem zs_goto {off : Int} {tgt : Nat} (hf : zi_fe M pc = some (.goto off, len, r1, r2, r3, pi, z)) (h0 : (pc : Int) + off = (tgt : Int)) : zv k M pc ls st h = zv k M tgt ls st h := zv_next hf (zt_to h0)
theorem zs_swI {dflt lo hi off : Int} {offs : Array Int} {tgt : Nat} {x : Int32} (hf : zi_fe M pc = some (.tableswitch dflt lo hi offs, len, r1, r2, r3, pi, z)) (hx : ¬ (x.toInt < lo ∨ hi < x.toInt)) (ho : offs[(x.toInt - lo).toNat]? = some off) (h0 : (pc : Int) + off = (tgt : Int)) : zv k M pc ls (.int x :: st) h = zv k M tgt ls st h := zv_next hf (by show (if _ then _ else _) = _; rw [if_neg hx, ho]; exact zt_to h0)
theorem zs_swO {dflt lo hi : Int} {offs : Array Int} {tgt : Nat} {x : Int32} (hf : zi_fe M pc = some (.tableswitch dflt lo hi offs, len, r1, r2, r3, pi, z)) (h0 : (pc : Int) + dflt = (tgt : Int)) (hx : x.toInt < lo ∨ hi < x.toInt) : zv k M pc ls (.int x :: st) h = zv k M tgt ls st h := zv_next hf (by show (if _ then _ else _) = _; rw [if_pos hx]; exact zt_to h0)
theorem zs_newa {t : ArrayType} {x : Int32} {N : Nat} (hf : zi_fe M pc = some (.newarray t, len, r1, r2, r3, pi, z)) (hx : (¬ x < 0 ∧ x.toNatClampNeg ≤ 10000) ∧ x.toNatClampNeg = N) : zv k M pc ls (.int x :: st) h = zv k M (pc + 2) ls (.ref (zh_n h) :: st) (zh_al h r1 N) := zv_next hf (by show (if _ then _ else _) = _; rw [if_pos hx.1, hx.2])
theorem zs_anew {ix N : Nat} {x : Int32} (hf : zi_fe M pc = some (.anewarray ix, len, r1, r2, r3, pi, z)) (hx : (¬ x < 0 ∧ x.toNatClampNeg ≤ 10000) ∧ x.toNatClampNeg = N) : zv k M pc ls (.int x :: st) h = zv k M (pc + 3) ls (.ref (zh_n h) :: st) (zh_al h r1 N) := zv_next hf (by show (if _ then _ else _) = _; rw [if_pos hx.1, hx.2])
theorem zs_mnew {ix d N K : Nat} {x y : Int32} (hf : zi_fe M pc = some (.multianewarray ix d, len, r1, r2, r3, pi, z)) (hx : (¬ x < 0 ∧ x.toNatClampNeg ≤ 10000) ∧ x.toNatClampNeg = N) (hy : (¬ y < 0 ∧ y.toNatClampNeg ≤ 10000) ∧ y.toNatClampNeg = K) : zv k M pc ls (.int y :: .int x :: st) h = zv k M (pc + 4) ls (.ref (zh_n h) :: st) (zh_mn h N K) := zv_next hf (by show (if _ then _ else _) = _; rw [if_pos ⟨hx.1, hy.1⟩, hx.2, hy.2])
theorem zs_objI {ix a : Nat} (hf : zi_fe M pc = some (.invokespecial ix, len, r1, 3, r3, pi, z)) (hl : zi_cs st ≤ 8) : zv k M pc ls (.ref a :: st) h = zv k M (pc + 3) ls st h := zv_next hf (by show (if _ then _ else _) = _; rw [if_pos hl])
theorem zs_max {ix : Nat} {x y : Int32} (hf : zi_fe M pc = some (.invokestatic ix, len, r1, 9, r3, pi, z)) (hl : zi_cs st ≤ 8) : zv k M pc ls (.int y :: .int x :: st) h = zv k M (pc + 3) ls (.int (if x < y then y else x) :: st) h := zv_next hf (by show (if _ then _ else _) = _; rw [if_pos hl])
theorem zs_min {ix : Nat} {x y : Int32} (hf : zi_fe M pc = some (.invokestatic ix, len, r1, 10, r3, pi, z)) (hl : zi_cs st ≤ 8) : zv k M pc ls (.int y :: .int x :: st) h = zv k M (pc + 3) ls (.int (if y < x then y else x) :: st) h := zv_next hf (by show (if _ then _ else _) = _; rw [if_pos hl])
/-- what arraycopy asks for -/
def zi_cpo (h : zi_Hp) (s : Nat) (sp : Int32) (d : Nat) (dp n : Int32) : Prop := s < zh_n h ∧ d < zh_n h ∧ ¬ sp < 0 ∧ ¬ dp < 0 ∧ ¬ n < 0 ∧ sp.toNatClampNeg + n.toNatClampNeg ≤ (zh_k h s).2 ∧ dp.toNatClampNeg + n.toNatClampNeg ≤ (zh_k h d).2
theorem zs_cpi {ix s d : Nat} {sp dp n : Int32} (hf : zi_fe M pc = some (.invokestatic ix, len, r1, 6, r3, pi, z)) (hl : zi_cs st ≤ 8) (hc : zi_cpo h s sp d dp n) (hs : (zh_k h s).1 = 100) (hd : (zh_k h d).1 = 100) : zv k M pc ls (.int n :: .int dp :: .ref d :: .int sp :: .ref s :: st) h = zv k M (pc + 3) ls st (zh_ci h s sp.toNatClampNeg d dp.toNatClampNeg n.toNatClampNeg) := zv_next hf (by show (if _ then _ else _) = _; rw [if_pos ⟨hl, hc⟩, if_pos ⟨hs, hd⟩])
theorem zs_cpb {ix s d : Nat} {sp dp n : Int32} (hf : zi_fe M pc = some (.invokestatic ix, len, r1, 6, r3, pi, z)) (hl : zi_cs st ≤ 8) (hc : zi_cpo h s sp d dp n) (hs : (zh_k h s).1 = 101) (hd : (zh_k h d).1 = 101) : zv k M pc ls (.int n :: .int dp :: .ref d :: .int sp :: .ref s :: st) h = zv k M (pc + 3) ls st (zh_cb h s sp.toNatClampNeg d dp.toNatClampNeg n.toNatClampNeg) := zv_next hf (by show (if _ then _ else _) = _; rw [if_pos ⟨hl, hc⟩, if_neg (by rintro ⟨q, -⟩; omega), if_pos ⟨hs, hd⟩])
theorem zs_ret1 {x : Int32} (hf : zi_fe M pc = some (.ireturn, len, 1, r2, r3, pi, z)) (hx : x = 0 ∨ x = 1) : zv k M pc ls [.int x] h = some (some (.int x), h) := zv_ret hf (by show (if _ then _ else _) = _; rw [if_pos (Or.inr hx)])
theorem zs_ret0 {x : Int32} (hf : zi_fe M pc = some (.ireturn, len, 0, r2, r3, pi, z)) : zv k M pc ls [.int x] h = some (some (.int x), h) := zv_ret hf rfl
theorem zs_callV {ix a k2 : Nat} {q : List Value} {ls2 : List Value} {st2 : List Value} (hf : zi_fe M pc = some (.invokevirtual ix, len, r1, 0, r3, pi, z)) (hz : z.toNat ≤ st.length) (hl : zi_cs (st.drop z.toNat) ≤ 8) (hq : (st.take z.toNat).reverse = .ref a :: q) (ha : a < zh_n h) (hk : (zh_k h a).1 = r3) (hr : zi_rk r1 (.ref a :: q) = k2 ∧ zi_fit r1 (.ref a :: q) = true ∧ zi_en r1 (.ref a :: q) = ls2) (hk2 : k2 < k) (hst : st.drop z.toNat = st2) :
    zv k M pc ls st h = (zv k2 r1 0 ls2 [] h).bind fun r => zv k M (pc + 3) ls (r.1.toList ++ st2) r.2 := by
  obtain ⟨h1, h2, h3⟩ := hr
  subst h1
  subst h3
  subst hst
  exact zv_call (as := .ref a :: q) hf (by show (if _ then _ else _) = _; rw [if_pos ⟨rfl, hz, hl⟩, hq]; show (if _ then _ else _) = _; rw [if_pos ⟨ha, hk⟩]) ⟨hk2, h2⟩
theorem zs_callS {ix k2 : Nat} {q : List Value} {ls2 : List Value} {st2 : List Value} (hf : zi_fe M pc = some (.invokestatic ix, len, r1, r2, r3, pi, z)) (hr2 : r2 = 1 ∨ r2 = 5) (hz : z.toNat ≤ st.length) (hl : zi_cs (st.drop z.toNat) ≤ 8) (hq : (st.take z.toNat).reverse = q) (hr : zi_rk r1 q = k2 ∧ zi_fit r1 q = true ∧ zi_en r1 q = ls2) (hk2 : k2 < k) (hst : st.drop z.toNat = st2) :
    zv k M pc ls st h = (zv k2 r1 0 ls2 [] h).bind fun r => zv k M (pc + 3) ls (r.1.toList ++ st2) r.2 := by
  obtain ⟨h1, h2, h3⟩ := hr
  subst h1
  subst h3
  subst hst
  subst hq
  exact zv_call hf (by show (if _ then _ else _) = _; rw [if_pos ⟨hr2, hz, hl⟩]) ⟨hk2, h2⟩
theorem zs_callI {ix a k2 : Nat} {q : List Value} {ls2 : List Value} {st2 : List Value} (hf : zi_fe M pc = some (.invokespecial ix, len, r1, r2, r3, pi, z)) (hr2 : r2 = 2 ∨ r2 = 4) (hz : z.toNat ≤ st.length) (hl : zi_cs (st.drop z.toNat) ≤ 8) (hq : (st.take z.toNat).reverse = .ref a :: q) (hr : zi_rk r1 (.ref a :: q) = k2 ∧ zi_fit r1 (.ref a :: q) = true ∧ zi_en r1 (.ref a :: q) = ls2) (hk2 : k2 < k) (hst : st.drop z.toNat = st2) :
    zv k M pc ls st h = (zv k2 r1 0 ls2 [] h).bind fun r => zv k M (pc + 3) ls (r.1.toList ++ st2) r.2 := by
  obtain ⟨h1, h2, h3⟩ := hr
  subst h1
  subst h3
  subst hst
  have h3 : ¬ r2 = 3 := by omega
  exact zv_call (as := .ref a :: q) hf (by show (if _ then _ else _) = _; rw [if_neg h3]; show (if _ then _ else _) = _; rw [if_pos ⟨hr2, hz, hl⟩, hq]) ⟨hk2, h2⟩
end ZROWS
section ZROWS2
variable {k M pc : Nat} {ls st : List Value} {h : zi_Hp} {len r1 r2 r3 pi : Nat} {z : Int}
theorem zs_ic {n : Int} {v : Int32} (hf : zi_fe M pc = some (.iconst n, len, r1, r2, r3, pi, z)) (hv : Int32.ofInt n = v) : zv k M pc ls st h = zv k M (pc + 1) ls (.int v :: st) h := by subst hv; exact zv_next hf rfl
theorem zs_bp {n : Int} {v : Int32} (hf : zi_fe M pc = some (.bipush n, len, r1, r2, r3, pi, z)) (hv : (Int8.ofInt n).toInt32 = v) : zv k M pc ls st h = zv k M (pc + 2) ls (.int v :: st) h := by subst hv; exact zv_next hf rfl
theorem zs_sp {n : Int} {v : Int32} (hf : zi_fe M pc = some (.sipush n, len, r1, r2, r3, pi, z)) (hv : (Int16.ofInt n).toInt32 = v) : zv k M pc ls st h = zv k M (pc + 3) ls (.int v :: st) h := by subst hv; exact zv_next hf rfl
theorem zs_lc {n : Fin 2} {v : Int64} (hf : zi_fe M pc = some (.lconst n, len, r1, r2, r3, pi, z)) (hv : Int64.ofNat (n : Nat) = v) : zv k M pc ls st h = zv k M (pc + 1) ls (.long v :: st) h := by subst hv; exact zv_next hf rfl
theorem zs_lw {ix : Nat} {v : Int32} (hf : zi_fe M pc = some (.ldc_w ix, len, r1, r2, r3, pi, z)) (hv : Int32.ofInt z = v) : zv k M pc ls st h = zv k M (pc + 3) ls (.int v :: st) h := by subst hv; exact zv_next hf rfl
theorem zs_l2 {ix : Nat} {v : Int64} (hf : zi_fe M pc = some (.ldc2_w ix, len, r1, r2, r3, pi, z)) (hv : Int64.ofInt z = v) : zv k M pc ls st h = zv k M (pc + 3) ls (.long v :: st) h := by subst hv; exact zv_next hf rfl
theorem zs_inc {n : Nat} {d : Int} {x v : Int32} {ls2 : List Value} (hf : zi_fe M pc = some (.iinc n d, len, r1, r2, r3, pi, z)) (hl : ls[n]? = some (.int x)) (hv : Int32.ofInt d = v) (h2 : ls.set n (.int (x + v)) = ls2) : zv k M pc ls st h = zv k M (pc + 3) ls2 st h := by
  subst hv
  subst h2
  exact zv_next hf (by dsimp only [zi_st]; rw [hl])
theorem zs_geti {ix a : Nat} (hf : zi_fe M pc = some (.getfield ix, len, r1, r2, 0, pi, z)) (ha : a < zh_n h) (hk : (zh_k h a).1 = r1) : zv k M pc ls (.ref a :: st) h = zv k M (pc + 3) ls (.int (zh_i h a r2) :: st) h := zs_getf hf ha hk
theorem zs_getb {ix a : Nat} (hf : zi_fe M pc = some (.getfield ix, len, r1, r2, 1, pi, z)) (ha : a < zh_n h) (hk : (zh_k h a).1 = r1) : zv k M pc ls (.ref a :: st) h = zv k M (pc + 3) ls (.int (zi_bI (zh_b h a r2)) :: st) h := zs_getf hf ha hk
theorem zs_getl {ix a : Nat} (hf : zi_fe M pc = some (.getfield ix, len, r1, r2, 2, pi, z)) (ha : a < zh_n h) (hk : (zh_k h a).1 = r1) : zv k M pc ls (.ref a :: st) h = zv k M (pc + 3) ls (.long (zh_l h a r2) :: st) h := zs_getf hf ha hk
theorem zs_sw {dflt lo hi off : Int} {offs : Array Int} {tgt : Nat} {x v : Int32} (hf : zi_fe M pc = some (.tableswitch dflt lo hi offs, len, r1, r2, r3, pi, z)) (hc : ¬ (v.toInt < lo ∨ hi < v.toInt)) (ho : offs[(v.toInt - lo).toNat]? = some off) (h0 : (pc : Int) + off = (tgt : Int)) (hx : x = v) : zv k M pc ls (.int x :: st) h = zv k M tgt ls st h := by subst hx; exact zs_swI hf hc ho h0
theorem zs_alT {n : Fin 4} {q : Nat} (hf : zi_fe M pc = some (.aload_n n, len, r1, r2, r3, pi, z)) (hv : ls[n.val]? = some (.retAddr q)) (hq : q < 5) : zv k M pc ls st h = zv k M (pc + 1) ls (.retAddr q :: st) h := zv_next hf (by
  show (match ls[n.val]? with
    | some v => if zi_isR v = true then some (Sum.inl (pc + 1, ls, v :: st, h)) else none
    | none => none) = _
  rw [hv]
  show (if decide (q < 5) = true then _ else _) = _
  rw [if_pos (decide_eq_true hq)])
theorem zs_slen {ix q : Nat} (hf : zi_fe M pc = some (.invokevirtual ix, len, r1, 7, r3, pi, z)) (hq : 1 ≤ q ∧ q < 5) (hl : zi_cs st ≤ 8) : zv k M pc ls (.retAddr q :: st) h = zv k M (pc + 3) ls (.int (Int32.ofNat (zi_sl q)) :: st) h := zv_next hf (by show (if _ then _ else _) = _; rw [if_pos ⟨hq, hl⟩])
theorem zs_sch {ix q : Nat} {j : Int32} (hf : zi_fe M pc = some (.invokevirtual ix, len, r1, 8, r3, pi, z)) (hq : 1 ≤ q ∧ q < 5) (hj : ¬ (j < 0 ∨ zi_sl q ≤ j.toNatClampNeg)) (hl : zi_cs st ≤ 8) : zv k M pc ls (.int j :: .retAddr q :: st) h = zv k M (pc + 3) ls (.int (zi_sc q j.toNatClampNeg) :: st) h := zv_next hf (by show (if _ then _ else _) = _; rw [if_pos ⟨hq, hj, hl⟩])
end ZROWS2
theorem zj_lit {x : Int32} {n N : Nat} (hx : ¬ x < 0 ∧ x.toNatClampNeg = n) (h : n < N) : ¬ (x < 0 ∨ N ≤ x.toNatClampNeg) := by
  rintro (q | q)
  · exact hx.1 q
  · rw [hx.2] at q; omega
