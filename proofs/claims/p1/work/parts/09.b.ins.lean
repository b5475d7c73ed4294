theorem c_in0_1 {h : zi_Hp} {x : Int32} : zv 1 142 0 [.long x.toInt64, .double 1, .long 0, .double 1, .long 1, .double 1] [] h = some (some (.int (if 0 ≤ x ∧ x ≤ 1 then 1 else 0)), h) := c_inI (a := 0) (b := 1)
theorem c_in0_2 {h : zi_Hp} {x : Int32} : zv 1 142 0 [.long x.toInt64, .double 1, .long 0, .double 1, .long 2, .double 1] [] h = some (some (.int (if 0 ≤ x ∧ x ≤ 2 then 1 else 0)), h) := c_inI (a := 0) (b := 2)
theorem c_in0_3 {h : zi_Hp} {x : Int32} : zv 1 142 0 [.long x.toInt64, .double 1, .long 0, .double 1, .long 3, .double 1] [] h = some (some (.int (if 0 ≤ x ∧ x ≤ 3 then 1 else 0)), h) := c_inI (a := 0) (b := 3)
theorem c_in0_5 {h : zi_Hp} {x : Int32} : zv 1 142 0 [.long x.toInt64, .double 1, .long 0, .double 1, .long 5, .double 1] [] h = some (some (.int (if 0 ≤ x ∧ x ≤ 5 then 1 else 0)), h) := c_inI (a := 0) (b := 5)
theorem c_in0_7 {h : zi_Hp} {x : Int32} : zv 1 142 0 [.long x.toInt64, .double 1, .long 0, .double 1, .long 7, .double 1] [] h = some (some (.int (if 0 ≤ x ∧ x ≤ 7 then 1 else 0)), h) := c_inI (a := 0) (b := 7)
theorem c_in0_40 {h : zi_Hp} {x : Int32} : zv 1 142 0 [.long x.toInt64, .double 1, .long 0, .double 1, .long 40, .double 1] [] h = some (some (.int (if 0 ≤ x ∧ x ≤ 40 then 1 else 0)), h) := c_inI (a := 0) (b := 40)
theorem c_in0_60 {h : zi_Hp} {x : Int32} : zv 1 142 0 [.long x.toInt64, .double 1, .long 0, .double 1, .long 60, .double 1] [] h = some (some (.int (if 0 ≤ x ∧ x ≤ 60 then 1 else 0)), h) := c_inI (a := 0) (b := 60)
theorem c_in0_99 {h : zi_Hp} {x : Int32} : zv 1 142 0 [.long x.toInt64, .double 1, .long 0, .double 1, .long 99, .double 1] [] h = some (some (.int (if 0 ≤ x ∧ x ≤ 99 then 1 else 0)), h) := c_inI (a := 0) (b := 99)
theorem c_in0_127 {h : zi_Hp} {x : Int32} : zv 1 142 0 [.long x.toInt64, .double 1, .long 0, .double 1, .long 127, .double 1] [] h = some (some (.int (if 0 ≤ x ∧ x ≤ 127 then 1 else 0)), h) := c_inI (a := 0) (b := 127)
theorem c_in2_4 {h : zi_Hp} {x : Int32} : zv 1 142 0 [.long x.toInt64, .double 1, .long 2, .double 1, .long 4, .double 1] [] h = some (some (.int (if 2 ≤ x ∧ x ≤ 4 then 1 else 0)), h) := c_inI (a := 2) (b := 4)
theorem c_in0b {h : zi_Hp} {x b : Int32} : zv 1 142 0 [.long x.toInt64, .double 1, .long 0, .double 1, .long b.toInt64, .double 1] [] h = some (some (.int (if 0 ≤ x ∧ x ≤ b then 1 else 0)), h) := c_inI (a := 0) (b := b)
theorem fn_0 {x : Int32} (h1 : ¬ x < 0) (h2 : ¬ 0 < x) : x = 0 := by
  simp only [Int32.lt_iff_toInt_lt, ← Int32.toInt_inj] at *
  simp +decide only [Int32.reduceToInt] at *
  omega
theorem fn_1 {x : Int32} (h1 : ¬ x < 0) (h2 : ¬ 1 < x) : x = 0 ∨ x = 1 := by
  simp only [Int32.lt_iff_toInt_lt, ← Int32.toInt_inj] at *
  simp +decide only [Int32.reduceToInt] at *
  omega
theorem fn_2 {x : Int32} (h1 : ¬ x < 0) (h2 : ¬ 2 < x) : x = 0 ∨ x = 1 ∨ x = 2 := by
  simp only [Int32.lt_iff_toInt_lt, ← Int32.toInt_inj] at *
  simp +decide only [Int32.reduceToInt] at *
  omega
theorem fn_3 {x : Int32} (h1 : ¬ x < 0) (h2 : ¬ 3 < x) : x = 0 ∨ x = 1 ∨ x = 2 ∨ x = 3 := by
  simp only [Int32.lt_iff_toInt_lt, ← Int32.toInt_inj] at *
  simp +decide only [Int32.reduceToInt] at *
  omega
theorem fn_5 {x : Int32} (h1 : ¬ x < 0) (h2 : ¬ 5 < x) : x = 0 ∨ x = 1 ∨ x = 2 ∨ x = 3 ∨ x = 4 ∨ x = 5 := by
  simp only [Int32.lt_iff_toInt_lt, ← Int32.toInt_inj] at *
  simp +decide only [Int32.reduceToInt] at *
  omega
theorem fn_7 {x : Int32} (h1 : ¬ x < 0) (h2 : ¬ 7 < x) : x = 0 ∨ x = 1 ∨ x = 2 ∨ x = 3 ∨ x = 4 ∨ x = 5 ∨ x = 6 ∨ x = 7 := by
  simp only [Int32.lt_iff_toInt_lt, ← Int32.toInt_inj] at *
  simp +decide only [Int32.reduceToInt] at *
  omega
theorem x_out {x a b : Int32} (h : x < a ∨ b < x) : ¬ (a ≤ x ∧ x ≤ b) := fun q => h.elim (fun w => absurd w (Int32.not_lt.mpr q.1)) (fun w => absurd w (Int32.not_lt.mpr q.2))
theorem x_in {x a b : Int32} (h1 : ¬ x < a) (h2 : ¬ b < x) : a ≤ x ∧ x ≤ b := ⟨Int32.not_lt.mp h1, Int32.not_lt.mp h2⟩
theorem x_ge0 {x : Int32} (h : 0 < x) : ¬ x < 1 := by
  simp only [Int32.lt_iff_toInt_lt] at *
  simp +decide only [Int32.reduceToInt] at *
  omega
theorem x_lt0 {x : Int32} (h : ¬ 0 < x) : x < 1 := by
  simp only [Int32.lt_iff_toInt_lt] at *
  simp +decide only [Int32.reduceToInt] at *
  omega
theorem x_nn0 {x : Int32} (h : 0 < x) : ¬ x < 0 := by
  simp only [Int32.lt_iff_toInt_lt] at *
  simp +decide only [Int32.reduceToInt] at *
  omega
theorem x_ge1 {x : Int32} (h : 1 < x) : ¬ x < 2 := by
  simp only [Int32.lt_iff_toInt_lt] at *
  simp +decide only [Int32.reduceToInt] at *
  omega
theorem x_lt1 {x : Int32} (h : ¬ 1 < x) : x < 2 := by
  simp only [Int32.lt_iff_toInt_lt] at *
  simp +decide only [Int32.reduceToInt] at *
  omega
theorem x_nn1 {x : Int32} (h : 1 < x) : ¬ x < 0 := by
  simp only [Int32.lt_iff_toInt_lt] at *
  simp +decide only [Int32.reduceToInt] at *
  omega
theorem x_ge2 {x : Int32} (h : 2 < x) : ¬ x < 3 := by
  simp only [Int32.lt_iff_toInt_lt] at *
  simp +decide only [Int32.reduceToInt] at *
  omega
theorem x_lt2 {x : Int32} (h : ¬ 2 < x) : x < 3 := by
  simp only [Int32.lt_iff_toInt_lt] at *
  simp +decide only [Int32.reduceToInt] at *
  omega
theorem x_nn2 {x : Int32} (h : 2 < x) : ¬ x < 0 := by
  simp only [Int32.lt_iff_toInt_lt] at *
  simp +decide only [Int32.reduceToInt] at *
  omega
theorem x_ge3 {x : Int32} (h : 3 < x) : ¬ x < 4 := by
  simp only [Int32.lt_iff_toInt_lt] at *
  simp +decide only [Int32.reduceToInt] at *
  omega
theorem x_lt3 {x : Int32} (h : ¬ 3 < x) : x < 4 := by
  simp only [Int32.lt_iff_toInt_lt] at *
  simp +decide only [Int32.reduceToInt] at *
  omega
theorem x_nn3 {x : Int32} (h : 3 < x) : ¬ x < 0 := by
  simp only [Int32.lt_iff_toInt_lt] at *
  simp +decide only [Int32.reduceToInt] at *
  omega
theorem x_ge5 {x : Int32} (h : 5 < x) : ¬ x < 6 := by
  simp only [Int32.lt_iff_toInt_lt] at *
  simp +decide only [Int32.reduceToInt] at *
  omega
theorem x_lt5 {x : Int32} (h : ¬ 5 < x) : x < 6 := by
  simp only [Int32.lt_iff_toInt_lt] at *
  simp +decide only [Int32.reduceToInt] at *
  omega
theorem x_nn5 {x : Int32} (h : 5 < x) : ¬ x < 0 := by
  simp only [Int32.lt_iff_toInt_lt] at *
  simp +decide only [Int32.reduceToInt] at *
  omega
theorem x_ge7 {x : Int32} (h : 7 < x) : ¬ x < 8 := by
  simp only [Int32.lt_iff_toInt_lt] at *
  simp +decide only [Int32.reduceToInt] at *
  omega
theorem x_lt7 {x : Int32} (h : ¬ 7 < x) : x < 8 := by
  simp only [Int32.lt_iff_toInt_lt] at *
  simp +decide only [Int32.reduceToInt] at *
  omega
theorem x_nn7 {x : Int32} (h : 7 < x) : ¬ x < 0 := by
  simp only [Int32.lt_iff_toInt_lt] at *
  simp +decide only [Int32.reduceToInt] at *
  omega
theorem x_ge40 {x : Int32} (h : 40 < x) : ¬ x < 41 := by
  simp only [Int32.lt_iff_toInt_lt] at *
  simp +decide only [Int32.reduceToInt] at *
  omega
theorem x_lt40 {x : Int32} (h : ¬ 40 < x) : x < 41 := by
  simp only [Int32.lt_iff_toInt_lt] at *
  simp +decide only [Int32.reduceToInt] at *
  omega
theorem x_nn40 {x : Int32} (h : 40 < x) : ¬ x < 0 := by
  simp only [Int32.lt_iff_toInt_lt] at *
  simp +decide only [Int32.reduceToInt] at *
  omega
theorem x_ge60 {x : Int32} (h : 60 < x) : ¬ x < 61 := by
  simp only [Int32.lt_iff_toInt_lt] at *
  simp +decide only [Int32.reduceToInt] at *
  omega
theorem x_lt60 {x : Int32} (h : ¬ 60 < x) : x < 61 := by
  simp only [Int32.lt_iff_toInt_lt] at *
  simp +decide only [Int32.reduceToInt] at *
  omega
theorem x_nn60 {x : Int32} (h : 60 < x) : ¬ x < 0 := by
  simp only [Int32.lt_iff_toInt_lt] at *
  simp +decide only [Int32.reduceToInt] at *
  omega
theorem x_ge99 {x : Int32} (h : 99 < x) : ¬ x < 100 := by
  simp only [Int32.lt_iff_toInt_lt] at *
  simp +decide only [Int32.reduceToInt] at *
  omega
theorem x_lt99 {x : Int32} (h : ¬ 99 < x) : x < 100 := by
  simp only [Int32.lt_iff_toInt_lt] at *
  simp +decide only [Int32.reduceToInt] at *
  omega
theorem x_nn99 {x : Int32} (h : 99 < x) : ¬ x < 0 := by
  simp only [Int32.lt_iff_toInt_lt] at *
  simp +decide only [Int32.reduceToInt] at *
  omega
theorem x_d7 {x : Int32} (h : x < 0 ∨ 7 < x) : x.toInt < 0 ∨ 7 < x.toInt := by
  simp only [Int32.lt_iff_toInt_lt] at *
  simp +decide only [Int32.reduceToInt] at *
  omega
theorem x_d5 {x : Int32} (h : x < 0 ∨ 5 < x) : x.toInt < 0 ∨ 5 < x.toInt := by
  simp only [Int32.lt_iff_toInt_lt] at *
  simp +decide only [Int32.reduceToInt] at *
  omega
