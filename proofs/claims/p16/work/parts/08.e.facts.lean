/-! facts of the fresh cells -/
theorem kx_0 : (zX122 0).1 = (7, 9) := Eq.trans rfl rfl
theorem rx_0_0 : (zX122 0).2.2.2.2 0 = .ref 1 := Eq.trans rfl rfl
theorem rx_0_1 : (zX122 0).2.2.2.2 1 = .ref 17 := Eq.trans rfl rfl
theorem rx_0_2 : (zX122 0).2.2.2.2 2 = .ref 33 := Eq.trans rfl rfl
theorem rx_0_3 : (zX122 0).2.2.2.2 3 = .ref 66 := Eq.trans rfl rfl
theorem rx_0_4 : (zX122 0).2.2.2.2 4 = .ref 67 := Eq.trans rfl rfl
theorem rx_0_5 : (zX122 0).2.2.2.2 5 = .ref 197 := Eq.trans rfl rfl
theorem rx_0_6 : (zX122 0).2.2.2.2 6 = .ref 199 := Eq.trans rfl rfl
theorem rx_0_7 : (zX122 0).2.2.2.2 7 = .ref 203 := Eq.trans rfl rfl
theorem ix_0 (j : Nat) : (zX122 0).2.1 j = 0 := by
  show (if j = 8 then (0 : Int32) else 0) = 0
  split <;> rfl
theorem bx_0 (j : Nat) : (zX122 0).2.2.1 j = false := Eq.trans rfl rfl
theorem lx_0 (j : Nat) : (zX122 0).2.2.2.1 j = 0 := Eq.trans rfl rfl
theorem kx_1 : (zX122 1).1 = (6, 2) := Eq.trans rfl rfl
theorem rx_1_0 : (zX122 1).2.2.2.2 0 = .ref 2 := Eq.trans rfl rfl
theorem rx_1_1 : (zX122 1).2.2.2.2 1 = .ref 10 := Eq.trans rfl rfl
theorem ix_1 (j : Nat) : (zX122 1).2.1 j = 0 := Eq.trans rfl rfl
theorem bx_1 (j : Nat) : (zX122 1).2.2.1 j = false := Eq.trans rfl rfl
theorem lx_1 (j : Nat) : (zX122 1).2.2.2.1 j = 0 := Eq.trans rfl rfl
theorem kx_2 : (zX122 2).1 = (4, 10) := Eq.trans rfl rfl
theorem rx_2_3 : (zX122 2).2.2.2.2 3 = .ref 3 := Eq.trans rfl rfl
theorem rx_2_4 : (zX122 2).2.2.2.2 4 = .ref 4 := Eq.trans rfl rfl
theorem rx_2_5 : (zX122 2).2.2.2.2 5 = .ref 5 := Eq.trans rfl rfl
theorem rx_2_6 : (zX122 2).2.2.2.2 6 = .ref 6 := Eq.trans rfl rfl
theorem rx_2_7 : (zX122 2).2.2.2.2 7 = .ref 7 := Eq.trans rfl rfl
theorem rx_2_8 : (zX122 2).2.2.2.2 8 = .ref 8 := Eq.trans rfl rfl
theorem rx_2_9 : (zX122 2).2.2.2.2 9 = .ref 9 := Eq.trans rfl rfl
theorem ix_2 (j : Nat) : (zX122 2).2.1 j = if j = 0 then 1 else if j = 2 then 3 else 0 := Eq.trans rfl rfl
theorem bx_2 (j : Nat) : (zX122 2).2.2.1 j = false := Eq.trans rfl rfl
theorem lx_2 (j : Nat) : (zX122 2).2.2.2.1 j = 0 := Eq.trans rfl rfl
theorem kx_3 : (zX122 3).1 = (100, 24) := Eq.trans rfl rfl
theorem ix_3 (j : Nat) : (zX122 3).2.1 j = 0 := Eq.trans rfl rfl
theorem kx_4 : (zX122 4).1 = (100, 24) := Eq.trans rfl rfl
theorem ix_4 (j : Nat) : (zX122 4).2.1 j = 0 := Eq.trans rfl rfl
theorem kx_5 : (zX122 5).1 = (100, 24) := Eq.trans rfl rfl
theorem ix_5 (j : Nat) : (zX122 5).2.1 j = if j = 0 then 100 else 0 := Eq.trans rfl rfl
theorem kx_6 : (zX122 6).1 = (100, 24) := Eq.trans rfl rfl
theorem ix_6 (j : Nat) : (zX122 6).2.1 j = if j = 0 then -4 else 0 := Eq.trans rfl rfl
theorem kx_7 : (zX122 7).1 = (101, 24) := Eq.trans rfl rfl
theorem bx_7 (j : Nat) : (zX122 7).2.2.1 j = false := Eq.trans rfl rfl
theorem kx_8 : (zX122 8).1 = (100, 120) := Eq.trans rfl rfl
theorem ix_8 (j : Nat) : (zX122 8).2.1 j = 0 := Eq.trans rfl rfl
theorem kx_9 : (zX122 9).1 = (100, 120) := Eq.trans rfl rfl
theorem ix_9 (j : Nat) : (zX122 9).2.1 j = 0 := Eq.trans rfl rfl
theorem kx_10 : (zX122 10).1 = (104, 3) := Eq.trans rfl rfl
theorem rx_10_0 : (zX122 10).2.2.2.2 0 = .ref 11 := Eq.trans rfl rfl
theorem rx_10_1 : (zX122 10).2.2.2.2 1 = .ref 13 := Eq.trans rfl rfl
theorem rx_10_2 : (zX122 10).2.2.2.2 2 = .ref 15 := Eq.trans rfl rfl
theorem ix_10 (j : Nat) : (zX122 10).2.1 j = 0 := Eq.trans rfl rfl
theorem kx_11 : (zX122 11).1 = (0, 13) := Eq.trans rfl rfl
theorem rx_11_12 : (zX122 11).2.2.2.2 12 = .ref 12 := Eq.trans rfl rfl
theorem ix_11 (j : Nat) : (zX122 11).2.1 j = if j = 4 then -4 else 0 := Eq.trans rfl rfl
theorem bx_11 (j : Nat) : (zX122 11).2.2.1 j = false := Eq.trans rfl rfl
theorem lx_11 (j : Nat) : (zX122 11).2.2.2.1 j = 0 := Eq.trans rfl rfl
theorem kx_12 : (zX122 12).1 = (100, 24) := Eq.trans rfl rfl
theorem ix_12 (j : Nat) : (zX122 12).2.1 j = if j < 24 then -4 else 0 := Eq.trans rfl rfl
theorem kx_13 : (zX122 13).1 = (0, 13) := Eq.trans rfl rfl
theorem rx_13_12 : (zX122 13).2.2.2.2 12 = .ref 14 := Eq.trans rfl rfl
theorem ix_13 (j : Nat) : (zX122 13).2.1 j = if j = 4 then -4 else 0 := Eq.trans rfl rfl
theorem bx_13 (j : Nat) : (zX122 13).2.2.1 j = false := Eq.trans rfl rfl
theorem lx_13 (j : Nat) : (zX122 13).2.2.2.1 j = 0 := Eq.trans rfl rfl
theorem kx_14 : (zX122 14).1 = (100, 24) := Eq.trans rfl rfl
theorem ix_14 (j : Nat) : (zX122 14).2.1 j = if j < 24 then -4 else 0 := Eq.trans rfl rfl
theorem kx_15 : (zX122 15).1 = (0, 13) := Eq.trans rfl rfl
theorem rx_15_12 : (zX122 15).2.2.2.2 12 = .ref 16 := Eq.trans rfl rfl
theorem ix_15 (j : Nat) : (zX122 15).2.1 j = if j = 4 then -4 else 0 := Eq.trans rfl rfl
theorem bx_15 (j : Nat) : (zX122 15).2.2.1 j = false := Eq.trans rfl rfl
theorem lx_15 (j : Nat) : (zX122 15).2.2.2.1 j = 0 := Eq.trans rfl rfl
theorem kx_16 : (zX122 16).1 = (100, 24) := Eq.trans rfl rfl
theorem ix_16 (j : Nat) : (zX122 16).2.1 j = if j < 24 then -4 else 0 := Eq.trans rfl rfl
theorem kx_17 : (zX122 17).1 = (6, 2) := Eq.trans rfl rfl
theorem rx_17_0 : (zX122 17).2.2.2.2 0 = .ref 18 := Eq.trans rfl rfl
theorem rx_17_1 : (zX122 17).2.2.2.2 1 = .ref 26 := Eq.trans rfl rfl
theorem ix_17 (j : Nat) : (zX122 17).2.1 j = 0 := Eq.trans rfl rfl
theorem bx_17 (j : Nat) : (zX122 17).2.2.1 j = false := Eq.trans rfl rfl
theorem lx_17 (j : Nat) : (zX122 17).2.2.2.1 j = 0 := Eq.trans rfl rfl
theorem kx_18 : (zX122 18).1 = (4, 10) := Eq.trans rfl rfl
theorem rx_18_3 : (zX122 18).2.2.2.2 3 = .ref 19 := Eq.trans rfl rfl
theorem rx_18_4 : (zX122 18).2.2.2.2 4 = .ref 20 := Eq.trans rfl rfl
theorem rx_18_5 : (zX122 18).2.2.2.2 5 = .ref 21 := Eq.trans rfl rfl
theorem rx_18_6 : (zX122 18).2.2.2.2 6 = .ref 22 := Eq.trans rfl rfl
theorem rx_18_7 : (zX122 18).2.2.2.2 7 = .ref 23 := Eq.trans rfl rfl
theorem rx_18_8 : (zX122 18).2.2.2.2 8 = .ref 24 := Eq.trans rfl rfl
theorem rx_18_9 : (zX122 18).2.2.2.2 9 = .ref 25 := Eq.trans rfl rfl
theorem ix_18 (j : Nat) : (zX122 18).2.1 j = if j = 0 then 1 else if j = 2 then 3 else 0 := Eq.trans rfl rfl
theorem bx_18 (j : Nat) : (zX122 18).2.2.1 j = false := Eq.trans rfl rfl
theorem lx_18 (j : Nat) : (zX122 18).2.2.2.1 j = 0 := Eq.trans rfl rfl
theorem kx_19 : (zX122 19).1 = (100, 24) := Eq.trans rfl rfl
theorem ix_19 (j : Nat) : (zX122 19).2.1 j = 0 := Eq.trans rfl rfl
theorem kx_20 : (zX122 20).1 = (100, 24) := Eq.trans rfl rfl
theorem ix_20 (j : Nat) : (zX122 20).2.1 j = 0 := Eq.trans rfl rfl
theorem kx_21 : (zX122 21).1 = (100, 24) := Eq.trans rfl rfl
theorem ix_21 (j : Nat) : (zX122 21).2.1 j = if j = 0 then 100 else 0 := Eq.trans rfl rfl
theorem kx_22 : (zX122 22).1 = (100, 24) := Eq.trans rfl rfl
theorem ix_22 (j : Nat) : (zX122 22).2.1 j = if j = 0 then -4 else 0 := Eq.trans rfl rfl
theorem kx_23 : (zX122 23).1 = (101, 24) := Eq.trans rfl rfl
theorem bx_23 (j : Nat) : (zX122 23).2.2.1 j = false := Eq.trans rfl rfl
theorem kx_24 : (zX122 24).1 = (100, 120) := Eq.trans rfl rfl
theorem ix_24 (j : Nat) : (zX122 24).2.1 j = 0 := Eq.trans rfl rfl
theorem kx_25 : (zX122 25).1 = (100, 120) := Eq.trans rfl rfl
theorem ix_25 (j : Nat) : (zX122 25).2.1 j = 0 := Eq.trans rfl rfl
theorem kx_26 : (zX122 26).1 = (104, 3) := Eq.trans rfl rfl
theorem rx_26_0 : (zX122 26).2.2.2.2 0 = .ref 27 := Eq.trans rfl rfl
theorem rx_26_1 : (zX122 26).2.2.2.2 1 = .ref 29 := Eq.trans rfl rfl
theorem rx_26_2 : (zX122 26).2.2.2.2 2 = .ref 31 := Eq.trans rfl rfl
theorem ix_26 (j : Nat) : (zX122 26).2.1 j = 0 := Eq.trans rfl rfl
theorem kx_27 : (zX122 27).1 = (0, 13) := Eq.trans rfl rfl
theorem rx_27_12 : (zX122 27).2.2.2.2 12 = .ref 28 := Eq.trans rfl rfl
theorem ix_27 (j : Nat) : (zX122 27).2.1 j = if j = 4 then -4 else 0 := Eq.trans rfl rfl
theorem bx_27 (j : Nat) : (zX122 27).2.2.1 j = false := Eq.trans rfl rfl
theorem lx_27 (j : Nat) : (zX122 27).2.2.2.1 j = 0 := Eq.trans rfl rfl
theorem kx_28 : (zX122 28).1 = (100, 24) := Eq.trans rfl rfl
theorem ix_28 (j : Nat) : (zX122 28).2.1 j = if j < 24 then -4 else 0 := Eq.trans rfl rfl
theorem kx_29 : (zX122 29).1 = (0, 13) := Eq.trans rfl rfl
theorem rx_29_12 : (zX122 29).2.2.2.2 12 = .ref 30 := Eq.trans rfl rfl
theorem ix_29 (j : Nat) : (zX122 29).2.1 j = if j = 4 then -4 else 0 := Eq.trans rfl rfl
theorem bx_29 (j : Nat) : (zX122 29).2.2.1 j = false := Eq.trans rfl rfl
theorem lx_29 (j : Nat) : (zX122 29).2.2.2.1 j = 0 := Eq.trans rfl rfl
theorem kx_30 : (zX122 30).1 = (100, 24) := Eq.trans rfl rfl
theorem ix_30 (j : Nat) : (zX122 30).2.1 j = if j < 24 then -4 else 0 := Eq.trans rfl rfl
theorem kx_31 : (zX122 31).1 = (0, 13) := Eq.trans rfl rfl
theorem rx_31_12 : (zX122 31).2.2.2.2 12 = .ref 32 := Eq.trans rfl rfl
theorem ix_31 (j : Nat) : (zX122 31).2.1 j = if j = 4 then -4 else 0 := Eq.trans rfl rfl
theorem bx_31 (j : Nat) : (zX122 31).2.2.1 j = false := Eq.trans rfl rfl
theorem lx_31 (j : Nat) : (zX122 31).2.2.2.1 j = 0 := Eq.trans rfl rfl
theorem kx_32 : (zX122 32).1 = (100, 24) := Eq.trans rfl rfl
theorem ix_32 (j : Nat) : (zX122 32).2.1 j = if j < 24 then -4 else 0 := Eq.trans rfl rfl
theorem kx_33 : (zX122 33).1 = (103, 2) := Eq.trans rfl rfl
theorem rx_33_0 : (zX122 33).2.2.2.2 0 = .ref 34 := Eq.trans rfl rfl
theorem rx_33_1 : (zX122 33).2.2.2.2 1 = .ref 50 := Eq.trans rfl rfl
theorem ix_33 (j : Nat) : (zX122 33).2.1 j = 0 := Eq.trans rfl rfl
theorem kx_34 : (zX122 34).1 = (6, 2) := Eq.trans rfl rfl
theorem rx_34_0 : (zX122 34).2.2.2.2 0 = .ref 35 := Eq.trans rfl rfl
theorem rx_34_1 : (zX122 34).2.2.2.2 1 = .ref 43 := Eq.trans rfl rfl
theorem ix_34 (j : Nat) : (zX122 34).2.1 j = 0 := Eq.trans rfl rfl
theorem bx_34 (j : Nat) : (zX122 34).2.2.1 j = false := Eq.trans rfl rfl
theorem lx_34 (j : Nat) : (zX122 34).2.2.2.1 j = 0 := Eq.trans rfl rfl
theorem kx_35 : (zX122 35).1 = (4, 10) := Eq.trans rfl rfl
theorem rx_35_3 : (zX122 35).2.2.2.2 3 = .ref 36 := Eq.trans rfl rfl
theorem rx_35_4 : (zX122 35).2.2.2.2 4 = .ref 37 := Eq.trans rfl rfl
theorem rx_35_5 : (zX122 35).2.2.2.2 5 = .ref 38 := Eq.trans rfl rfl
theorem rx_35_6 : (zX122 35).2.2.2.2 6 = .ref 39 := Eq.trans rfl rfl
theorem rx_35_7 : (zX122 35).2.2.2.2 7 = .ref 40 := Eq.trans rfl rfl
theorem rx_35_8 : (zX122 35).2.2.2.2 8 = .ref 41 := Eq.trans rfl rfl
theorem rx_35_9 : (zX122 35).2.2.2.2 9 = .ref 42 := Eq.trans rfl rfl
theorem ix_35 (j : Nat) : (zX122 35).2.1 j = if j = 0 then 1 else if j = 2 then 3 else 0 := Eq.trans rfl rfl
theorem bx_35 (j : Nat) : (zX122 35).2.2.1 j = false := Eq.trans rfl rfl
theorem lx_35 (j : Nat) : (zX122 35).2.2.2.1 j = 0 := Eq.trans rfl rfl
theorem kx_36 : (zX122 36).1 = (100, 24) := Eq.trans rfl rfl
theorem ix_36 (j : Nat) : (zX122 36).2.1 j = 0 := Eq.trans rfl rfl
theorem kx_37 : (zX122 37).1 = (100, 24) := Eq.trans rfl rfl
theorem ix_37 (j : Nat) : (zX122 37).2.1 j = 0 := Eq.trans rfl rfl
theorem kx_38 : (zX122 38).1 = (100, 24) := Eq.trans rfl rfl
theorem ix_38 (j : Nat) : (zX122 38).2.1 j = if j = 0 then 100 else 0 := Eq.trans rfl rfl
theorem kx_39 : (zX122 39).1 = (100, 24) := Eq.trans rfl rfl
theorem ix_39 (j : Nat) : (zX122 39).2.1 j = if j = 0 then -4 else 0 := Eq.trans rfl rfl
theorem kx_40 : (zX122 40).1 = (101, 24) := Eq.trans rfl rfl
theorem bx_40 (j : Nat) : (zX122 40).2.2.1 j = false := Eq.trans rfl rfl
theorem kx_41 : (zX122 41).1 = (100, 120) := Eq.trans rfl rfl
theorem ix_41 (j : Nat) : (zX122 41).2.1 j = 0 := Eq.trans rfl rfl
theorem kx_42 : (zX122 42).1 = (100, 120) := Eq.trans rfl rfl
theorem ix_42 (j : Nat) : (zX122 42).2.1 j = 0 := Eq.trans rfl rfl
theorem kx_43 : (zX122 43).1 = (104, 3) := Eq.trans rfl rfl
theorem rx_43_0 : (zX122 43).2.2.2.2 0 = .ref 44 := Eq.trans rfl rfl
theorem rx_43_1 : (zX122 43).2.2.2.2 1 = .ref 46 := Eq.trans rfl rfl
theorem rx_43_2 : (zX122 43).2.2.2.2 2 = .ref 48 := Eq.trans rfl rfl
theorem ix_43 (j : Nat) : (zX122 43).2.1 j = 0 := Eq.trans rfl rfl
theorem kx_44 : (zX122 44).1 = (0, 13) := Eq.trans rfl rfl
theorem rx_44_12 : (zX122 44).2.2.2.2 12 = .ref 45 := Eq.trans rfl rfl
theorem ix_44 (j : Nat) : (zX122 44).2.1 j = if j = 4 then -4 else 0 := Eq.trans rfl rfl
theorem bx_44 (j : Nat) : (zX122 44).2.2.1 j = false := Eq.trans rfl rfl
theorem lx_44 (j : Nat) : (zX122 44).2.2.2.1 j = 0 := Eq.trans rfl rfl
theorem kx_45 : (zX122 45).1 = (100, 24) := Eq.trans rfl rfl
theorem ix_45 (j : Nat) : (zX122 45).2.1 j = if j < 24 then -4 else 0 := Eq.trans rfl rfl
theorem kx_46 : (zX122 46).1 = (0, 13) := Eq.trans rfl rfl
theorem rx_46_12 : (zX122 46).2.2.2.2 12 = .ref 47 := Eq.trans rfl rfl
theorem ix_46 (j : Nat) : (zX122 46).2.1 j = if j = 4 then -4 else 0 := Eq.trans rfl rfl
theorem bx_46 (j : Nat) : (zX122 46).2.2.1 j = false := Eq.trans rfl rfl
theorem lx_46 (j : Nat) : (zX122 46).2.2.2.1 j = 0 := Eq.trans rfl rfl
theorem kx_47 : (zX122 47).1 = (100, 24) := Eq.trans rfl rfl
theorem ix_47 (j : Nat) : (zX122 47).2.1 j = if j < 24 then -4 else 0 := Eq.trans rfl rfl
theorem kx_48 : (zX122 48).1 = (0, 13) := Eq.trans rfl rfl
theorem rx_48_12 : (zX122 48).2.2.2.2 12 = .ref 49 := Eq.trans rfl rfl
theorem ix_48 (j : Nat) : (zX122 48).2.1 j = if j = 4 then -4 else 0 := Eq.trans rfl rfl
theorem bx_48 (j : Nat) : (zX122 48).2.2.1 j = false := Eq.trans rfl rfl
theorem lx_48 (j : Nat) : (zX122 48).2.2.2.1 j = 0 := Eq.trans rfl rfl
theorem kx_49 : (zX122 49).1 = (100, 24) := Eq.trans rfl rfl
theorem ix_49 (j : Nat) : (zX122 49).2.1 j = if j < 24 then -4 else 0 := Eq.trans rfl rfl
theorem kx_50 : (zX122 50).1 = (6, 2) := Eq.trans rfl rfl
theorem rx_50_0 : (zX122 50).2.2.2.2 0 = .ref 51 := Eq.trans rfl rfl
theorem rx_50_1 : (zX122 50).2.2.2.2 1 = .ref 59 := Eq.trans rfl rfl
theorem ix_50 (j : Nat) : (zX122 50).2.1 j = 0 := Eq.trans rfl rfl
theorem bx_50 (j : Nat) : (zX122 50).2.2.1 j = false := Eq.trans rfl rfl
theorem lx_50 (j : Nat) : (zX122 50).2.2.2.1 j = 0 := Eq.trans rfl rfl
theorem kx_51 : (zX122 51).1 = (4, 10) := Eq.trans rfl rfl
theorem rx_51_3 : (zX122 51).2.2.2.2 3 = .ref 52 := Eq.trans rfl rfl
theorem rx_51_4 : (zX122 51).2.2.2.2 4 = .ref 53 := Eq.trans rfl rfl
theorem rx_51_5 : (zX122 51).2.2.2.2 5 = .ref 54 := Eq.trans rfl rfl
theorem rx_51_6 : (zX122 51).2.2.2.2 6 = .ref 55 := Eq.trans rfl rfl
theorem rx_51_7 : (zX122 51).2.2.2.2 7 = .ref 56 := Eq.trans rfl rfl
theorem rx_51_8 : (zX122 51).2.2.2.2 8 = .ref 57 := Eq.trans rfl rfl
theorem rx_51_9 : (zX122 51).2.2.2.2 9 = .ref 58 := Eq.trans rfl rfl
theorem ix_51 (j : Nat) : (zX122 51).2.1 j = if j = 0 then 1 else if j = 2 then 3 else 0 := Eq.trans rfl rfl
theorem bx_51 (j : Nat) : (zX122 51).2.2.1 j = false := Eq.trans rfl rfl
theorem lx_51 (j : Nat) : (zX122 51).2.2.2.1 j = 0 := Eq.trans rfl rfl
theorem kx_52 : (zX122 52).1 = (100, 24) := Eq.trans rfl rfl
theorem ix_52 (j : Nat) : (zX122 52).2.1 j = 0 := Eq.trans rfl rfl
theorem kx_53 : (zX122 53).1 = (100, 24) := Eq.trans rfl rfl
theorem ix_53 (j : Nat) : (zX122 53).2.1 j = 0 := Eq.trans rfl rfl
theorem kx_54 : (zX122 54).1 = (100, 24) := Eq.trans rfl rfl
theorem ix_54 (j : Nat) : (zX122 54).2.1 j = if j = 0 then 100 else 0 := Eq.trans rfl rfl
theorem kx_55 : (zX122 55).1 = (100, 24) := Eq.trans rfl rfl
theorem ix_55 (j : Nat) : (zX122 55).2.1 j = if j = 0 then -4 else 0 := Eq.trans rfl rfl
theorem kx_56 : (zX122 56).1 = (101, 24) := Eq.trans rfl rfl
theorem bx_56 (j : Nat) : (zX122 56).2.2.1 j = false := Eq.trans rfl rfl
theorem kx_57 : (zX122 57).1 = (100, 120) := Eq.trans rfl rfl
theorem ix_57 (j : Nat) : (zX122 57).2.1 j = 0 := Eq.trans rfl rfl
theorem kx_58 : (zX122 58).1 = (100, 120) := Eq.trans rfl rfl
theorem ix_58 (j : Nat) : (zX122 58).2.1 j = 0 := Eq.trans rfl rfl
theorem kx_59 : (zX122 59).1 = (104, 3) := Eq.trans rfl rfl
theorem rx_59_0 : (zX122 59).2.2.2.2 0 = .ref 60 := Eq.trans rfl rfl
theorem rx_59_1 : (zX122 59).2.2.2.2 1 = .ref 62 := Eq.trans rfl rfl
theorem rx_59_2 : (zX122 59).2.2.2.2 2 = .ref 64 := Eq.trans rfl rfl
theorem ix_59 (j : Nat) : (zX122 59).2.1 j = 0 := Eq.trans rfl rfl
theorem kx_60 : (zX122 60).1 = (0, 13) := Eq.trans rfl rfl
theorem rx_60_12 : (zX122 60).2.2.2.2 12 = .ref 61 := Eq.trans rfl rfl
theorem ix_60 (j : Nat) : (zX122 60).2.1 j = if j = 4 then -4 else 0 := Eq.trans rfl rfl
theorem bx_60 (j : Nat) : (zX122 60).2.2.1 j = false := Eq.trans rfl rfl
theorem lx_60 (j : Nat) : (zX122 60).2.2.2.1 j = 0 := Eq.trans rfl rfl
theorem kx_61 : (zX122 61).1 = (100, 24) := Eq.trans rfl rfl
theorem ix_61 (j : Nat) : (zX122 61).2.1 j = if j < 24 then -4 else 0 := Eq.trans rfl rfl
theorem kx_62 : (zX122 62).1 = (0, 13) := Eq.trans rfl rfl
theorem rx_62_12 : (zX122 62).2.2.2.2 12 = .ref 63 := Eq.trans rfl rfl
theorem ix_62 (j : Nat) : (zX122 62).2.1 j = if j = 4 then -4 else 0 := Eq.trans rfl rfl
theorem bx_62 (j : Nat) : (zX122 62).2.2.1 j = false := Eq.trans rfl rfl
theorem lx_62 (j : Nat) : (zX122 62).2.2.2.1 j = 0 := Eq.trans rfl rfl
theorem kx_63 : (zX122 63).1 = (100, 24) := Eq.trans rfl rfl
theorem ix_63 (j : Nat) : (zX122 63).2.1 j = if j < 24 then -4 else 0 := Eq.trans rfl rfl
theorem kx_64 : (zX122 64).1 = (0, 13) := Eq.trans rfl rfl
theorem rx_64_12 : (zX122 64).2.2.2.2 12 = .ref 65 := Eq.trans rfl rfl
theorem ix_64 (j : Nat) : (zX122 64).2.1 j = if j = 4 then -4 else 0 := Eq.trans rfl rfl
theorem bx_64 (j : Nat) : (zX122 64).2.2.1 j = false := Eq.trans rfl rfl
theorem lx_64 (j : Nat) : (zX122 64).2.2.2.1 j = 0 := Eq.trans rfl rfl
theorem kx_65 : (zX122 65).1 = (100, 24) := Eq.trans rfl rfl
theorem ix_65 (j : Nat) : (zX122 65).2.1 j = if j < 24 then -4 else 0 := Eq.trans rfl rfl
theorem kx_66 : (zX122 66).1 = (101, 2) := Eq.trans rfl rfl
theorem bx_66 (j : Nat) : (zX122 66).2.2.1 j = false := Eq.trans rfl rfl
theorem kx_67 : (zX122 67).1 = (5, 13) := Eq.trans rfl rfl
theorem rx_67_0 : (zX122 67).2.2.2.2 0 = .ref 68 := Eq.trans rfl rfl
theorem ix_67 (j : Nat) : (zX122 67).2.1 j = 0 := Eq.trans rfl rfl
theorem bx_67 (j : Nat) : (zX122 67).2.2.1 j = false := Eq.trans rfl rfl
theorem lx_67 (j : Nat) : (zX122 67).2.2.2.1 j = 0 := Eq.trans rfl rfl
theorem kx_68 : (zX122 68).1 = (103, 8) := Eq.trans rfl rfl
theorem rx_68_0 : (zX122 68).2.2.2.2 0 = .ref 69 := Eq.trans rfl rfl
theorem rx_68_1 : (zX122 68).2.2.2.2 1 = .ref 85 := Eq.trans rfl rfl
theorem rx_68_2 : (zX122 68).2.2.2.2 2 = .ref 101 := Eq.trans rfl rfl
theorem rx_68_3 : (zX122 68).2.2.2.2 3 = .ref 117 := Eq.trans rfl rfl
theorem rx_68_4 : (zX122 68).2.2.2.2 4 = .ref 133 := Eq.trans rfl rfl
theorem rx_68_5 : (zX122 68).2.2.2.2 5 = .ref 149 := Eq.trans rfl rfl
theorem rx_68_6 : (zX122 68).2.2.2.2 6 = .ref 165 := Eq.trans rfl rfl
theorem rx_68_7 : (zX122 68).2.2.2.2 7 = .ref 181 := Eq.trans rfl rfl
theorem ix_68 (j : Nat) : (zX122 68).2.1 j = 0 := Eq.trans rfl rfl
theorem kx_69 : (zX122 69).1 = (6, 2) := Eq.trans rfl rfl
theorem rx_69_0 : (zX122 69).2.2.2.2 0 = .ref 70 := Eq.trans rfl rfl
theorem rx_69_1 : (zX122 69).2.2.2.2 1 = .ref 78 := Eq.trans rfl rfl
theorem ix_69 (j : Nat) : (zX122 69).2.1 j = 0 := Eq.trans rfl rfl
theorem bx_69 (j : Nat) : (zX122 69).2.2.1 j = false := Eq.trans rfl rfl
theorem lx_69 (j : Nat) : (zX122 69).2.2.2.1 j = 0 := Eq.trans rfl rfl
theorem kx_70 : (zX122 70).1 = (4, 10) := Eq.trans rfl rfl
theorem rx_70_3 : (zX122 70).2.2.2.2 3 = .ref 71 := Eq.trans rfl rfl
theorem rx_70_4 : (zX122 70).2.2.2.2 4 = .ref 72 := Eq.trans rfl rfl
theorem rx_70_5 : (zX122 70).2.2.2.2 5 = .ref 73 := Eq.trans rfl rfl
theorem rx_70_6 : (zX122 70).2.2.2.2 6 = .ref 74 := Eq.trans rfl rfl
theorem rx_70_7 : (zX122 70).2.2.2.2 7 = .ref 75 := Eq.trans rfl rfl
theorem rx_70_8 : (zX122 70).2.2.2.2 8 = .ref 76 := Eq.trans rfl rfl
theorem rx_70_9 : (zX122 70).2.2.2.2 9 = .ref 77 := Eq.trans rfl rfl
theorem ix_70 (j : Nat) : (zX122 70).2.1 j = if j = 0 then 1 else if j = 2 then 3 else 0 := Eq.trans rfl rfl
theorem bx_70 (j : Nat) : (zX122 70).2.2.1 j = false := Eq.trans rfl rfl
theorem lx_70 (j : Nat) : (zX122 70).2.2.2.1 j = 0 := Eq.trans rfl rfl
theorem kx_71 : (zX122 71).1 = (100, 24) := Eq.trans rfl rfl
theorem ix_71 (j : Nat) : (zX122 71).2.1 j = 0 := Eq.trans rfl rfl
theorem kx_72 : (zX122 72).1 = (100, 24) := Eq.trans rfl rfl
theorem ix_72 (j : Nat) : (zX122 72).2.1 j = 0 := Eq.trans rfl rfl
theorem kx_73 : (zX122 73).1 = (100, 24) := Eq.trans rfl rfl
theorem ix_73 (j : Nat) : (zX122 73).2.1 j = if j = 0 then 100 else 0 := Eq.trans rfl rfl
theorem kx_74 : (zX122 74).1 = (100, 24) := Eq.trans rfl rfl
theorem ix_74 (j : Nat) : (zX122 74).2.1 j = if j = 0 then -4 else 0 := Eq.trans rfl rfl
theorem kx_75 : (zX122 75).1 = (101, 24) := Eq.trans rfl rfl
theorem bx_75 (j : Nat) : (zX122 75).2.2.1 j = false := Eq.trans rfl rfl
theorem kx_76 : (zX122 76).1 = (100, 120) := Eq.trans rfl rfl
theorem ix_76 (j : Nat) : (zX122 76).2.1 j = 0 := Eq.trans rfl rfl
theorem kx_77 : (zX122 77).1 = (100, 120) := Eq.trans rfl rfl
theorem ix_77 (j : Nat) : (zX122 77).2.1 j = 0 := Eq.trans rfl rfl
theorem kx_78 : (zX122 78).1 = (104, 3) := Eq.trans rfl rfl
theorem rx_78_0 : (zX122 78).2.2.2.2 0 = .ref 79 := Eq.trans rfl rfl
theorem rx_78_1 : (zX122 78).2.2.2.2 1 = .ref 81 := Eq.trans rfl rfl
theorem rx_78_2 : (zX122 78).2.2.2.2 2 = .ref 83 := Eq.trans rfl rfl
theorem ix_78 (j : Nat) : (zX122 78).2.1 j = 0 := Eq.trans rfl rfl
theorem kx_79 : (zX122 79).1 = (0, 13) := Eq.trans rfl rfl
theorem rx_79_12 : (zX122 79).2.2.2.2 12 = .ref 80 := Eq.trans rfl rfl
theorem ix_79 (j : Nat) : (zX122 79).2.1 j = if j = 4 then -4 else 0 := Eq.trans rfl rfl
theorem bx_79 (j : Nat) : (zX122 79).2.2.1 j = false := Eq.trans rfl rfl
theorem lx_79 (j : Nat) : (zX122 79).2.2.2.1 j = 0 := Eq.trans rfl rfl
theorem kx_80 : (zX122 80).1 = (100, 24) := Eq.trans rfl rfl
theorem ix_80 (j : Nat) : (zX122 80).2.1 j = if j < 24 then -4 else 0 := Eq.trans rfl rfl
theorem kx_81 : (zX122 81).1 = (0, 13) := Eq.trans rfl rfl
theorem rx_81_12 : (zX122 81).2.2.2.2 12 = .ref 82 := Eq.trans rfl rfl
theorem ix_81 (j : Nat) : (zX122 81).2.1 j = if j = 4 then -4 else 0 := Eq.trans rfl rfl
theorem bx_81 (j : Nat) : (zX122 81).2.2.1 j = false := Eq.trans rfl rfl
theorem lx_81 (j : Nat) : (zX122 81).2.2.2.1 j = 0 := Eq.trans rfl rfl
theorem kx_82 : (zX122 82).1 = (100, 24) := Eq.trans rfl rfl
theorem ix_82 (j : Nat) : (zX122 82).2.1 j = if j < 24 then -4 else 0 := Eq.trans rfl rfl
theorem kx_83 : (zX122 83).1 = (0, 13) := Eq.trans rfl rfl
theorem rx_83_12 : (zX122 83).2.2.2.2 12 = .ref 84 := Eq.trans rfl rfl
theorem ix_83 (j : Nat) : (zX122 83).2.1 j = if j = 4 then -4 else 0 := Eq.trans rfl rfl
theorem bx_83 (j : Nat) : (zX122 83).2.2.1 j = false := Eq.trans rfl rfl
theorem lx_83 (j : Nat) : (zX122 83).2.2.2.1 j = 0 := Eq.trans rfl rfl
theorem kx_84 : (zX122 84).1 = (100, 24) := Eq.trans rfl rfl
theorem ix_84 (j : Nat) : (zX122 84).2.1 j = if j < 24 then -4 else 0 := Eq.trans rfl rfl
theorem kx_85 : (zX122 85).1 = (6, 2) := Eq.trans rfl rfl
theorem rx_85_0 : (zX122 85).2.2.2.2 0 = .ref 86 := Eq.trans rfl rfl
theorem rx_85_1 : (zX122 85).2.2.2.2 1 = .ref 94 := Eq.trans rfl rfl
theorem ix_85 (j : Nat) : (zX122 85).2.1 j = 0 := Eq.trans rfl rfl
theorem bx_85 (j : Nat) : (zX122 85).2.2.1 j = false := Eq.trans rfl rfl
theorem lx_85 (j : Nat) : (zX122 85).2.2.2.1 j = 0 := Eq.trans rfl rfl
theorem kx_86 : (zX122 86).1 = (4, 10) := Eq.trans rfl rfl
theorem rx_86_3 : (zX122 86).2.2.2.2 3 = .ref 87 := Eq.trans rfl rfl
theorem rx_86_4 : (zX122 86).2.2.2.2 4 = .ref 88 := Eq.trans rfl rfl
theorem rx_86_5 : (zX122 86).2.2.2.2 5 = .ref 89 := Eq.trans rfl rfl
theorem rx_86_6 : (zX122 86).2.2.2.2 6 = .ref 90 := Eq.trans rfl rfl
theorem rx_86_7 : (zX122 86).2.2.2.2 7 = .ref 91 := Eq.trans rfl rfl
theorem rx_86_8 : (zX122 86).2.2.2.2 8 = .ref 92 := Eq.trans rfl rfl
theorem rx_86_9 : (zX122 86).2.2.2.2 9 = .ref 93 := Eq.trans rfl rfl
theorem ix_86 (j : Nat) : (zX122 86).2.1 j = if j = 0 then 1 else if j = 2 then 3 else 0 := Eq.trans rfl rfl
theorem bx_86 (j : Nat) : (zX122 86).2.2.1 j = false := Eq.trans rfl rfl
theorem lx_86 (j : Nat) : (zX122 86).2.2.2.1 j = 0 := Eq.trans rfl rfl
theorem kx_87 : (zX122 87).1 = (100, 24) := Eq.trans rfl rfl
theorem ix_87 (j : Nat) : (zX122 87).2.1 j = 0 := Eq.trans rfl rfl
theorem kx_88 : (zX122 88).1 = (100, 24) := Eq.trans rfl rfl
theorem ix_88 (j : Nat) : (zX122 88).2.1 j = 0 := Eq.trans rfl rfl
theorem kx_89 : (zX122 89).1 = (100, 24) := Eq.trans rfl rfl
theorem ix_89 (j : Nat) : (zX122 89).2.1 j = if j = 0 then 100 else 0 := Eq.trans rfl rfl
theorem kx_90 : (zX122 90).1 = (100, 24) := Eq.trans rfl rfl
theorem ix_90 (j : Nat) : (zX122 90).2.1 j = if j = 0 then -4 else 0 := Eq.trans rfl rfl
theorem kx_91 : (zX122 91).1 = (101, 24) := Eq.trans rfl rfl
theorem bx_91 (j : Nat) : (zX122 91).2.2.1 j = false := Eq.trans rfl rfl
theorem kx_92 : (zX122 92).1 = (100, 120) := Eq.trans rfl rfl
theorem ix_92 (j : Nat) : (zX122 92).2.1 j = 0 := Eq.trans rfl rfl
theorem kx_93 : (zX122 93).1 = (100, 120) := Eq.trans rfl rfl
theorem ix_93 (j : Nat) : (zX122 93).2.1 j = 0 := Eq.trans rfl rfl
theorem kx_94 : (zX122 94).1 = (104, 3) := Eq.trans rfl rfl
theorem rx_94_0 : (zX122 94).2.2.2.2 0 = .ref 95 := Eq.trans rfl rfl
theorem rx_94_1 : (zX122 94).2.2.2.2 1 = .ref 97 := Eq.trans rfl rfl
theorem rx_94_2 : (zX122 94).2.2.2.2 2 = .ref 99 := Eq.trans rfl rfl
theorem ix_94 (j : Nat) : (zX122 94).2.1 j = 0 := Eq.trans rfl rfl
theorem kx_95 : (zX122 95).1 = (0, 13) := Eq.trans rfl rfl
theorem rx_95_12 : (zX122 95).2.2.2.2 12 = .ref 96 := Eq.trans rfl rfl
theorem ix_95 (j : Nat) : (zX122 95).2.1 j = if j = 4 then -4 else 0 := Eq.trans rfl rfl
theorem bx_95 (j : Nat) : (zX122 95).2.2.1 j = false := Eq.trans rfl rfl
theorem lx_95 (j : Nat) : (zX122 95).2.2.2.1 j = 0 := Eq.trans rfl rfl
theorem kx_96 : (zX122 96).1 = (100, 24) := Eq.trans rfl rfl
theorem ix_96 (j : Nat) : (zX122 96).2.1 j = if j < 24 then -4 else 0 := Eq.trans rfl rfl
theorem kx_97 : (zX122 97).1 = (0, 13) := Eq.trans rfl rfl
theorem rx_97_12 : (zX122 97).2.2.2.2 12 = .ref 98 := Eq.trans rfl rfl
theorem ix_97 (j : Nat) : (zX122 97).2.1 j = if j = 4 then -4 else 0 := Eq.trans rfl rfl
theorem bx_97 (j : Nat) : (zX122 97).2.2.1 j = false := Eq.trans rfl rfl
theorem lx_97 (j : Nat) : (zX122 97).2.2.2.1 j = 0 := Eq.trans rfl rfl
theorem kx_98 : (zX122 98).1 = (100, 24) := Eq.trans rfl rfl
theorem ix_98 (j : Nat) : (zX122 98).2.1 j = if j < 24 then -4 else 0 := Eq.trans rfl rfl
theorem kx_99 : (zX122 99).1 = (0, 13) := Eq.trans rfl rfl
theorem rx_99_12 : (zX122 99).2.2.2.2 12 = .ref 100 := Eq.trans rfl rfl
theorem ix_99 (j : Nat) : (zX122 99).2.1 j = if j = 4 then -4 else 0 := Eq.trans rfl rfl
theorem bx_99 (j : Nat) : (zX122 99).2.2.1 j = false := Eq.trans rfl rfl
theorem lx_99 (j : Nat) : (zX122 99).2.2.2.1 j = 0 := Eq.trans rfl rfl
theorem kx_100 : (zX122 100).1 = (100, 24) := Eq.trans rfl rfl
theorem ix_100 (j : Nat) : (zX122 100).2.1 j = if j < 24 then -4 else 0 := Eq.trans rfl rfl
theorem kx_101 : (zX122 101).1 = (6, 2) := Eq.trans rfl rfl
theorem rx_101_0 : (zX122 101).2.2.2.2 0 = .ref 102 := Eq.trans rfl rfl
theorem rx_101_1 : (zX122 101).2.2.2.2 1 = .ref 110 := Eq.trans rfl rfl
theorem ix_101 (j : Nat) : (zX122 101).2.1 j = 0 := Eq.trans rfl rfl
theorem bx_101 (j : Nat) : (zX122 101).2.2.1 j = false := Eq.trans rfl rfl
theorem lx_101 (j : Nat) : (zX122 101).2.2.2.1 j = 0 := Eq.trans rfl rfl
theorem kx_102 : (zX122 102).1 = (4, 10) := Eq.trans rfl rfl
theorem rx_102_3 : (zX122 102).2.2.2.2 3 = .ref 103 := Eq.trans rfl rfl
theorem rx_102_4 : (zX122 102).2.2.2.2 4 = .ref 104 := Eq.trans rfl rfl
theorem rx_102_5 : (zX122 102).2.2.2.2 5 = .ref 105 := Eq.trans rfl rfl
theorem rx_102_6 : (zX122 102).2.2.2.2 6 = .ref 106 := Eq.trans rfl rfl
theorem rx_102_7 : (zX122 102).2.2.2.2 7 = .ref 107 := Eq.trans rfl rfl
theorem rx_102_8 : (zX122 102).2.2.2.2 8 = .ref 108 := Eq.trans rfl rfl
theorem rx_102_9 : (zX122 102).2.2.2.2 9 = .ref 109 := Eq.trans rfl rfl
theorem ix_102 (j : Nat) : (zX122 102).2.1 j = if j = 0 then 1 else if j = 2 then 3 else 0 := Eq.trans rfl rfl
theorem bx_102 (j : Nat) : (zX122 102).2.2.1 j = false := Eq.trans rfl rfl
theorem lx_102 (j : Nat) : (zX122 102).2.2.2.1 j = 0 := Eq.trans rfl rfl
theorem kx_103 : (zX122 103).1 = (100, 24) := Eq.trans rfl rfl
theorem ix_103 (j : Nat) : (zX122 103).2.1 j = 0 := Eq.trans rfl rfl
theorem kx_104 : (zX122 104).1 = (100, 24) := Eq.trans rfl rfl
theorem ix_104 (j : Nat) : (zX122 104).2.1 j = 0 := Eq.trans rfl rfl
theorem kx_105 : (zX122 105).1 = (100, 24) := Eq.trans rfl rfl
theorem ix_105 (j : Nat) : (zX122 105).2.1 j = if j = 0 then 100 else 0 := Eq.trans rfl rfl
theorem kx_106 : (zX122 106).1 = (100, 24) := Eq.trans rfl rfl
theorem ix_106 (j : Nat) : (zX122 106).2.1 j = if j = 0 then -4 else 0 := Eq.trans rfl rfl
theorem kx_107 : (zX122 107).1 = (101, 24) := Eq.trans rfl rfl
theorem bx_107 (j : Nat) : (zX122 107).2.2.1 j = false := Eq.trans rfl rfl
theorem kx_108 : (zX122 108).1 = (100, 120) := Eq.trans rfl rfl
theorem ix_108 (j : Nat) : (zX122 108).2.1 j = 0 := Eq.trans rfl rfl
theorem kx_109 : (zX122 109).1 = (100, 120) := Eq.trans rfl rfl
theorem ix_109 (j : Nat) : (zX122 109).2.1 j = 0 := Eq.trans rfl rfl
theorem kx_110 : (zX122 110).1 = (104, 3) := Eq.trans rfl rfl
theorem rx_110_0 : (zX122 110).2.2.2.2 0 = .ref 111 := Eq.trans rfl rfl
theorem rx_110_1 : (zX122 110).2.2.2.2 1 = .ref 113 := Eq.trans rfl rfl
theorem rx_110_2 : (zX122 110).2.2.2.2 2 = .ref 115 := Eq.trans rfl rfl
theorem ix_110 (j : Nat) : (zX122 110).2.1 j = 0 := Eq.trans rfl rfl
theorem kx_111 : (zX122 111).1 = (0, 13) := Eq.trans rfl rfl
theorem rx_111_12 : (zX122 111).2.2.2.2 12 = .ref 112 := Eq.trans rfl rfl
theorem ix_111 (j : Nat) : (zX122 111).2.1 j = if j = 4 then -4 else 0 := Eq.trans rfl rfl
theorem bx_111 (j : Nat) : (zX122 111).2.2.1 j = false := Eq.trans rfl rfl
theorem lx_111 (j : Nat) : (zX122 111).2.2.2.1 j = 0 := Eq.trans rfl rfl
theorem kx_112 : (zX122 112).1 = (100, 24) := Eq.trans rfl rfl
theorem ix_112 (j : Nat) : (zX122 112).2.1 j = if j < 24 then -4 else 0 := Eq.trans rfl rfl
theorem kx_113 : (zX122 113).1 = (0, 13) := Eq.trans rfl rfl
theorem rx_113_12 : (zX122 113).2.2.2.2 12 = .ref 114 := Eq.trans rfl rfl
theorem ix_113 (j : Nat) : (zX122 113).2.1 j = if j = 4 then -4 else 0 := Eq.trans rfl rfl
theorem bx_113 (j : Nat) : (zX122 113).2.2.1 j = false := Eq.trans rfl rfl
theorem lx_113 (j : Nat) : (zX122 113).2.2.2.1 j = 0 := Eq.trans rfl rfl
theorem kx_114 : (zX122 114).1 = (100, 24) := Eq.trans rfl rfl
theorem ix_114 (j : Nat) : (zX122 114).2.1 j = if j < 24 then -4 else 0 := Eq.trans rfl rfl
theorem kx_115 : (zX122 115).1 = (0, 13) := Eq.trans rfl rfl
theorem rx_115_12 : (zX122 115).2.2.2.2 12 = .ref 116 := Eq.trans rfl rfl
theorem ix_115 (j : Nat) : (zX122 115).2.1 j = if j = 4 then -4 else 0 := Eq.trans rfl rfl
theorem bx_115 (j : Nat) : (zX122 115).2.2.1 j = false := Eq.trans rfl rfl
theorem lx_115 (j : Nat) : (zX122 115).2.2.2.1 j = 0 := Eq.trans rfl rfl
theorem kx_116 : (zX122 116).1 = (100, 24) := Eq.trans rfl rfl
theorem ix_116 (j : Nat) : (zX122 116).2.1 j = if j < 24 then -4 else 0 := Eq.trans rfl rfl
theorem kx_117 : (zX122 117).1 = (6, 2) := Eq.trans rfl rfl
theorem rx_117_0 : (zX122 117).2.2.2.2 0 = .ref 118 := Eq.trans rfl rfl
theorem rx_117_1 : (zX122 117).2.2.2.2 1 = .ref 126 := Eq.trans rfl rfl
theorem ix_117 (j : Nat) : (zX122 117).2.1 j = 0 := Eq.trans rfl rfl
theorem bx_117 (j : Nat) : (zX122 117).2.2.1 j = false := Eq.trans rfl rfl
theorem lx_117 (j : Nat) : (zX122 117).2.2.2.1 j = 0 := Eq.trans rfl rfl
theorem kx_118 : (zX122 118).1 = (4, 10) := Eq.trans rfl rfl
theorem rx_118_3 : (zX122 118).2.2.2.2 3 = .ref 119 := Eq.trans rfl rfl
theorem rx_118_4 : (zX122 118).2.2.2.2 4 = .ref 120 := Eq.trans rfl rfl
theorem rx_118_5 : (zX122 118).2.2.2.2 5 = .ref 121 := Eq.trans rfl rfl
theorem rx_118_6 : (zX122 118).2.2.2.2 6 = .ref 122 := Eq.trans rfl rfl
theorem rx_118_7 : (zX122 118).2.2.2.2 7 = .ref 123 := Eq.trans rfl rfl
theorem rx_118_8 : (zX122 118).2.2.2.2 8 = .ref 124 := Eq.trans rfl rfl
theorem rx_118_9 : (zX122 118).2.2.2.2 9 = .ref 125 := Eq.trans rfl rfl
theorem ix_118 (j : Nat) : (zX122 118).2.1 j = if j = 0 then 1 else if j = 2 then 3 else 0 := Eq.trans rfl rfl
theorem bx_118 (j : Nat) : (zX122 118).2.2.1 j = false := Eq.trans rfl rfl
theorem lx_118 (j : Nat) : (zX122 118).2.2.2.1 j = 0 := Eq.trans rfl rfl
theorem kx_119 : (zX122 119).1 = (100, 24) := Eq.trans rfl rfl
theorem ix_119 (j : Nat) : (zX122 119).2.1 j = 0 := Eq.trans rfl rfl
theorem kx_120 : (zX122 120).1 = (100, 24) := Eq.trans rfl rfl
theorem ix_120 (j : Nat) : (zX122 120).2.1 j = 0 := Eq.trans rfl rfl
theorem kx_121 : (zX122 121).1 = (100, 24) := Eq.trans rfl rfl
theorem ix_121 (j : Nat) : (zX122 121).2.1 j = if j = 0 then 100 else 0 := Eq.trans rfl rfl
theorem kx_122 : (zX122 122).1 = (100, 24) := Eq.trans rfl rfl
theorem ix_122 (j : Nat) : (zX122 122).2.1 j = if j = 0 then -4 else 0 := Eq.trans rfl rfl
theorem kx_123 : (zX122 123).1 = (101, 24) := Eq.trans rfl rfl
theorem bx_123 (j : Nat) : (zX122 123).2.2.1 j = false := Eq.trans rfl rfl
theorem kx_124 : (zX122 124).1 = (100, 120) := Eq.trans rfl rfl
theorem ix_124 (j : Nat) : (zX122 124).2.1 j = 0 := Eq.trans rfl rfl
theorem kx_125 : (zX122 125).1 = (100, 120) := Eq.trans rfl rfl
theorem ix_125 (j : Nat) : (zX122 125).2.1 j = 0 := Eq.trans rfl rfl
theorem kx_126 : (zX122 126).1 = (104, 3) := Eq.trans rfl rfl
theorem rx_126_0 : (zX122 126).2.2.2.2 0 = .ref 127 := Eq.trans rfl rfl
theorem rx_126_1 : (zX122 126).2.2.2.2 1 = .ref 129 := Eq.trans rfl rfl
theorem rx_126_2 : (zX122 126).2.2.2.2 2 = .ref 131 := Eq.trans rfl rfl
theorem ix_126 (j : Nat) : (zX122 126).2.1 j = 0 := Eq.trans rfl rfl
theorem kx_127 : (zX122 127).1 = (0, 13) := Eq.trans rfl rfl
theorem rx_127_12 : (zX122 127).2.2.2.2 12 = .ref 128 := Eq.trans rfl rfl
theorem ix_127 (j : Nat) : (zX122 127).2.1 j = if j = 4 then -4 else 0 := Eq.trans rfl rfl
theorem bx_127 (j : Nat) : (zX122 127).2.2.1 j = false := Eq.trans rfl rfl
theorem lx_127 (j : Nat) : (zX122 127).2.2.2.1 j = 0 := Eq.trans rfl rfl
theorem kx_128 : (zX122 128).1 = (100, 24) := Eq.trans rfl rfl
theorem ix_128 (j : Nat) : (zX122 128).2.1 j = if j < 24 then -4 else 0 := Eq.trans rfl rfl
theorem kx_129 : (zX122 129).1 = (0, 13) := Eq.trans rfl rfl
theorem rx_129_12 : (zX122 129).2.2.2.2 12 = .ref 130 := Eq.trans rfl rfl
theorem ix_129 (j : Nat) : (zX122 129).2.1 j = if j = 4 then -4 else 0 := Eq.trans rfl rfl
theorem bx_129 (j : Nat) : (zX122 129).2.2.1 j = false := Eq.trans rfl rfl
theorem lx_129 (j : Nat) : (zX122 129).2.2.2.1 j = 0 := Eq.trans rfl rfl
theorem kx_130 : (zX122 130).1 = (100, 24) := Eq.trans rfl rfl
theorem ix_130 (j : Nat) : (zX122 130).2.1 j = if j < 24 then -4 else 0 := Eq.trans rfl rfl
theorem kx_131 : (zX122 131).1 = (0, 13) := Eq.trans rfl rfl
theorem rx_131_12 : (zX122 131).2.2.2.2 12 = .ref 132 := Eq.trans rfl rfl
theorem ix_131 (j : Nat) : (zX122 131).2.1 j = if j = 4 then -4 else 0 := Eq.trans rfl rfl
theorem bx_131 (j : Nat) : (zX122 131).2.2.1 j = false := Eq.trans rfl rfl
theorem lx_131 (j : Nat) : (zX122 131).2.2.2.1 j = 0 := Eq.trans rfl rfl
theorem kx_132 : (zX122 132).1 = (100, 24) := Eq.trans rfl rfl
theorem ix_132 (j : Nat) : (zX122 132).2.1 j = if j < 24 then -4 else 0 := Eq.trans rfl rfl
theorem kx_133 : (zX122 133).1 = (6, 2) := Eq.trans rfl rfl
theorem rx_133_0 : (zX122 133).2.2.2.2 0 = .ref 134 := Eq.trans rfl rfl
theorem rx_133_1 : (zX122 133).2.2.2.2 1 = .ref 142 := Eq.trans rfl rfl
theorem ix_133 (j : Nat) : (zX122 133).2.1 j = 0 := Eq.trans rfl rfl
theorem bx_133 (j : Nat) : (zX122 133).2.2.1 j = false := Eq.trans rfl rfl
theorem lx_133 (j : Nat) : (zX122 133).2.2.2.1 j = 0 := Eq.trans rfl rfl
theorem kx_134 : (zX122 134).1 = (4, 10) := Eq.trans rfl rfl
theorem rx_134_3 : (zX122 134).2.2.2.2 3 = .ref 135 := Eq.trans rfl rfl
theorem rx_134_4 : (zX122 134).2.2.2.2 4 = .ref 136 := Eq.trans rfl rfl
theorem rx_134_5 : (zX122 134).2.2.2.2 5 = .ref 137 := Eq.trans rfl rfl
theorem rx_134_6 : (zX122 134).2.2.2.2 6 = .ref 138 := Eq.trans rfl rfl
theorem rx_134_7 : (zX122 134).2.2.2.2 7 = .ref 139 := Eq.trans rfl rfl
theorem rx_134_8 : (zX122 134).2.2.2.2 8 = .ref 140 := Eq.trans rfl rfl
theorem rx_134_9 : (zX122 134).2.2.2.2 9 = .ref 141 := Eq.trans rfl rfl
theorem ix_134 (j : Nat) : (zX122 134).2.1 j = if j = 0 then 1 else if j = 2 then 3 else 0 := Eq.trans rfl rfl
theorem bx_134 (j : Nat) : (zX122 134).2.2.1 j = false := Eq.trans rfl rfl
theorem lx_134 (j : Nat) : (zX122 134).2.2.2.1 j = 0 := Eq.trans rfl rfl
theorem kx_135 : (zX122 135).1 = (100, 24) := Eq.trans rfl rfl
theorem ix_135 (j : Nat) : (zX122 135).2.1 j = 0 := Eq.trans rfl rfl
theorem kx_136 : (zX122 136).1 = (100, 24) := Eq.trans rfl rfl
theorem ix_136 (j : Nat) : (zX122 136).2.1 j = 0 := Eq.trans rfl rfl
theorem kx_137 : (zX122 137).1 = (100, 24) := Eq.trans rfl rfl
theorem ix_137 (j : Nat) : (zX122 137).2.1 j = if j = 0 then 100 else 0 := Eq.trans rfl rfl
theorem kx_138 : (zX122 138).1 = (100, 24) := Eq.trans rfl rfl
theorem ix_138 (j : Nat) : (zX122 138).2.1 j = if j = 0 then -4 else 0 := Eq.trans rfl rfl
theorem kx_139 : (zX122 139).1 = (101, 24) := Eq.trans rfl rfl
theorem bx_139 (j : Nat) : (zX122 139).2.2.1 j = false := Eq.trans rfl rfl
theorem kx_140 : (zX122 140).1 = (100, 120) := Eq.trans rfl rfl
theorem ix_140 (j : Nat) : (zX122 140).2.1 j = 0 := Eq.trans rfl rfl
theorem kx_141 : (zX122 141).1 = (100, 120) := Eq.trans rfl rfl
theorem ix_141 (j : Nat) : (zX122 141).2.1 j = 0 := Eq.trans rfl rfl
theorem kx_142 : (zX122 142).1 = (104, 3) := Eq.trans rfl rfl
theorem rx_142_0 : (zX122 142).2.2.2.2 0 = .ref 143 := Eq.trans rfl rfl
theorem rx_142_1 : (zX122 142).2.2.2.2 1 = .ref 145 := Eq.trans rfl rfl
theorem rx_142_2 : (zX122 142).2.2.2.2 2 = .ref 147 := Eq.trans rfl rfl
theorem ix_142 (j : Nat) : (zX122 142).2.1 j = 0 := Eq.trans rfl rfl
theorem kx_143 : (zX122 143).1 = (0, 13) := Eq.trans rfl rfl
theorem rx_143_12 : (zX122 143).2.2.2.2 12 = .ref 144 := Eq.trans rfl rfl
theorem ix_143 (j : Nat) : (zX122 143).2.1 j = if j = 4 then -4 else 0 := Eq.trans rfl rfl
theorem bx_143 (j : Nat) : (zX122 143).2.2.1 j = false := Eq.trans rfl rfl
theorem lx_143 (j : Nat) : (zX122 143).2.2.2.1 j = 0 := Eq.trans rfl rfl
theorem kx_144 : (zX122 144).1 = (100, 24) := Eq.trans rfl rfl
theorem ix_144 (j : Nat) : (zX122 144).2.1 j = if j < 24 then -4 else 0 := Eq.trans rfl rfl
theorem kx_145 : (zX122 145).1 = (0, 13) := Eq.trans rfl rfl
theorem rx_145_12 : (zX122 145).2.2.2.2 12 = .ref 146 := Eq.trans rfl rfl
theorem ix_145 (j : Nat) : (zX122 145).2.1 j = if j = 4 then -4 else 0 := Eq.trans rfl rfl
theorem bx_145 (j : Nat) : (zX122 145).2.2.1 j = false := Eq.trans rfl rfl
theorem lx_145 (j : Nat) : (zX122 145).2.2.2.1 j = 0 := Eq.trans rfl rfl
theorem kx_146 : (zX122 146).1 = (100, 24) := Eq.trans rfl rfl
theorem ix_146 (j : Nat) : (zX122 146).2.1 j = if j < 24 then -4 else 0 := Eq.trans rfl rfl
theorem kx_147 : (zX122 147).1 = (0, 13) := Eq.trans rfl rfl
theorem rx_147_12 : (zX122 147).2.2.2.2 12 = .ref 148 := Eq.trans rfl rfl
theorem ix_147 (j : Nat) : (zX122 147).2.1 j = if j = 4 then -4 else 0 := Eq.trans rfl rfl
theorem bx_147 (j : Nat) : (zX122 147).2.2.1 j = false := Eq.trans rfl rfl
theorem lx_147 (j : Nat) : (zX122 147).2.2.2.1 j = 0 := Eq.trans rfl rfl
theorem kx_148 : (zX122 148).1 = (100, 24) := Eq.trans rfl rfl
theorem ix_148 (j : Nat) : (zX122 148).2.1 j = if j < 24 then -4 else 0 := Eq.trans rfl rfl
theorem kx_149 : (zX122 149).1 = (6, 2) := Eq.trans rfl rfl
theorem rx_149_0 : (zX122 149).2.2.2.2 0 = .ref 150 := Eq.trans rfl rfl
theorem rx_149_1 : (zX122 149).2.2.2.2 1 = .ref 158 := Eq.trans rfl rfl
theorem ix_149 (j : Nat) : (zX122 149).2.1 j = 0 := Eq.trans rfl rfl
theorem bx_149 (j : Nat) : (zX122 149).2.2.1 j = false := Eq.trans rfl rfl
theorem lx_149 (j : Nat) : (zX122 149).2.2.2.1 j = 0 := Eq.trans rfl rfl
theorem kx_150 : (zX122 150).1 = (4, 10) := Eq.trans rfl rfl
theorem rx_150_3 : (zX122 150).2.2.2.2 3 = .ref 151 := Eq.trans rfl rfl
theorem rx_150_4 : (zX122 150).2.2.2.2 4 = .ref 152 := Eq.trans rfl rfl
theorem rx_150_5 : (zX122 150).2.2.2.2 5 = .ref 153 := Eq.trans rfl rfl
theorem rx_150_6 : (zX122 150).2.2.2.2 6 = .ref 154 := Eq.trans rfl rfl
theorem rx_150_7 : (zX122 150).2.2.2.2 7 = .ref 155 := Eq.trans rfl rfl
theorem rx_150_8 : (zX122 150).2.2.2.2 8 = .ref 156 := Eq.trans rfl rfl
theorem rx_150_9 : (zX122 150).2.2.2.2 9 = .ref 157 := Eq.trans rfl rfl
theorem ix_150 (j : Nat) : (zX122 150).2.1 j = if j = 0 then 1 else if j = 2 then 3 else 0 := Eq.trans rfl rfl
theorem bx_150 (j : Nat) : (zX122 150).2.2.1 j = false := Eq.trans rfl rfl
theorem lx_150 (j : Nat) : (zX122 150).2.2.2.1 j = 0 := Eq.trans rfl rfl
theorem kx_151 : (zX122 151).1 = (100, 24) := Eq.trans rfl rfl
theorem ix_151 (j : Nat) : (zX122 151).2.1 j = 0 := Eq.trans rfl rfl
theorem kx_152 : (zX122 152).1 = (100, 24) := Eq.trans rfl rfl
theorem ix_152 (j : Nat) : (zX122 152).2.1 j = 0 := Eq.trans rfl rfl
theorem kx_153 : (zX122 153).1 = (100, 24) := Eq.trans rfl rfl
theorem ix_153 (j : Nat) : (zX122 153).2.1 j = if j = 0 then 100 else 0 := Eq.trans rfl rfl
theorem kx_154 : (zX122 154).1 = (100, 24) := Eq.trans rfl rfl
theorem ix_154 (j : Nat) : (zX122 154).2.1 j = if j = 0 then -4 else 0 := Eq.trans rfl rfl
theorem kx_155 : (zX122 155).1 = (101, 24) := Eq.trans rfl rfl
theorem bx_155 (j : Nat) : (zX122 155).2.2.1 j = false := Eq.trans rfl rfl
theorem kx_156 : (zX122 156).1 = (100, 120) := Eq.trans rfl rfl
theorem ix_156 (j : Nat) : (zX122 156).2.1 j = 0 := Eq.trans rfl rfl
theorem kx_157 : (zX122 157).1 = (100, 120) := Eq.trans rfl rfl
theorem ix_157 (j : Nat) : (zX122 157).2.1 j = 0 := Eq.trans rfl rfl
theorem kx_158 : (zX122 158).1 = (104, 3) := Eq.trans rfl rfl
theorem rx_158_0 : (zX122 158).2.2.2.2 0 = .ref 159 := Eq.trans rfl rfl
theorem rx_158_1 : (zX122 158).2.2.2.2 1 = .ref 161 := Eq.trans rfl rfl
theorem rx_158_2 : (zX122 158).2.2.2.2 2 = .ref 163 := Eq.trans rfl rfl
theorem ix_158 (j : Nat) : (zX122 158).2.1 j = 0 := Eq.trans rfl rfl
theorem kx_159 : (zX122 159).1 = (0, 13) := Eq.trans rfl rfl
theorem rx_159_12 : (zX122 159).2.2.2.2 12 = .ref 160 := Eq.trans rfl rfl
theorem ix_159 (j : Nat) : (zX122 159).2.1 j = if j = 4 then -4 else 0 := Eq.trans rfl rfl
theorem bx_159 (j : Nat) : (zX122 159).2.2.1 j = false := Eq.trans rfl rfl
theorem lx_159 (j : Nat) : (zX122 159).2.2.2.1 j = 0 := Eq.trans rfl rfl
theorem kx_160 : (zX122 160).1 = (100, 24) := Eq.trans rfl rfl
theorem ix_160 (j : Nat) : (zX122 160).2.1 j = if j < 24 then -4 else 0 := Eq.trans rfl rfl
theorem kx_161 : (zX122 161).1 = (0, 13) := Eq.trans rfl rfl
theorem rx_161_12 : (zX122 161).2.2.2.2 12 = .ref 162 := Eq.trans rfl rfl
theorem ix_161 (j : Nat) : (zX122 161).2.1 j = if j = 4 then -4 else 0 := Eq.trans rfl rfl
theorem bx_161 (j : Nat) : (zX122 161).2.2.1 j = false := Eq.trans rfl rfl
theorem lx_161 (j : Nat) : (zX122 161).2.2.2.1 j = 0 := Eq.trans rfl rfl
theorem kx_162 : (zX122 162).1 = (100, 24) := Eq.trans rfl rfl
theorem ix_162 (j : Nat) : (zX122 162).2.1 j = if j < 24 then -4 else 0 := Eq.trans rfl rfl
theorem kx_163 : (zX122 163).1 = (0, 13) := Eq.trans rfl rfl
theorem rx_163_12 : (zX122 163).2.2.2.2 12 = .ref 164 := Eq.trans rfl rfl
theorem ix_163 (j : Nat) : (zX122 163).2.1 j = if j = 4 then -4 else 0 := Eq.trans rfl rfl
theorem bx_163 (j : Nat) : (zX122 163).2.2.1 j = false := Eq.trans rfl rfl
theorem lx_163 (j : Nat) : (zX122 163).2.2.2.1 j = 0 := Eq.trans rfl rfl
theorem kx_164 : (zX122 164).1 = (100, 24) := Eq.trans rfl rfl
theorem ix_164 (j : Nat) : (zX122 164).2.1 j = if j < 24 then -4 else 0 := Eq.trans rfl rfl
theorem kx_165 : (zX122 165).1 = (6, 2) := Eq.trans rfl rfl
theorem rx_165_0 : (zX122 165).2.2.2.2 0 = .ref 166 := Eq.trans rfl rfl
theorem rx_165_1 : (zX122 165).2.2.2.2 1 = .ref 174 := Eq.trans rfl rfl
theorem ix_165 (j : Nat) : (zX122 165).2.1 j = 0 := Eq.trans rfl rfl
theorem bx_165 (j : Nat) : (zX122 165).2.2.1 j = false := Eq.trans rfl rfl
theorem lx_165 (j : Nat) : (zX122 165).2.2.2.1 j = 0 := Eq.trans rfl rfl
theorem kx_166 : (zX122 166).1 = (4, 10) := Eq.trans rfl rfl
theorem rx_166_3 : (zX122 166).2.2.2.2 3 = .ref 167 := Eq.trans rfl rfl
theorem rx_166_4 : (zX122 166).2.2.2.2 4 = .ref 168 := Eq.trans rfl rfl
theorem rx_166_5 : (zX122 166).2.2.2.2 5 = .ref 169 := Eq.trans rfl rfl
theorem rx_166_6 : (zX122 166).2.2.2.2 6 = .ref 170 := Eq.trans rfl rfl
theorem rx_166_7 : (zX122 166).2.2.2.2 7 = .ref 171 := Eq.trans rfl rfl
theorem rx_166_8 : (zX122 166).2.2.2.2 8 = .ref 172 := Eq.trans rfl rfl
theorem rx_166_9 : (zX122 166).2.2.2.2 9 = .ref 173 := Eq.trans rfl rfl
theorem ix_166 (j : Nat) : (zX122 166).2.1 j = if j = 0 then 1 else if j = 2 then 3 else 0 := Eq.trans rfl rfl
theorem bx_166 (j : Nat) : (zX122 166).2.2.1 j = false := Eq.trans rfl rfl
theorem lx_166 (j : Nat) : (zX122 166).2.2.2.1 j = 0 := Eq.trans rfl rfl
theorem kx_167 : (zX122 167).1 = (100, 24) := Eq.trans rfl rfl
theorem ix_167 (j : Nat) : (zX122 167).2.1 j = 0 := Eq.trans rfl rfl
theorem kx_168 : (zX122 168).1 = (100, 24) := Eq.trans rfl rfl
theorem ix_168 (j : Nat) : (zX122 168).2.1 j = 0 := Eq.trans rfl rfl
theorem kx_169 : (zX122 169).1 = (100, 24) := Eq.trans rfl rfl
theorem ix_169 (j : Nat) : (zX122 169).2.1 j = if j = 0 then 100 else 0 := Eq.trans rfl rfl
theorem kx_170 : (zX122 170).1 = (100, 24) := Eq.trans rfl rfl
theorem ix_170 (j : Nat) : (zX122 170).2.1 j = if j = 0 then -4 else 0 := Eq.trans rfl rfl
theorem kx_171 : (zX122 171).1 = (101, 24) := Eq.trans rfl rfl
theorem bx_171 (j : Nat) : (zX122 171).2.2.1 j = false := Eq.trans rfl rfl
theorem kx_172 : (zX122 172).1 = (100, 120) := Eq.trans rfl rfl
theorem ix_172 (j : Nat) : (zX122 172).2.1 j = 0 := Eq.trans rfl rfl
theorem kx_173 : (zX122 173).1 = (100, 120) := Eq.trans rfl rfl
theorem ix_173 (j : Nat) : (zX122 173).2.1 j = 0 := Eq.trans rfl rfl
theorem kx_174 : (zX122 174).1 = (104, 3) := Eq.trans rfl rfl
theorem rx_174_0 : (zX122 174).2.2.2.2 0 = .ref 175 := Eq.trans rfl rfl
theorem rx_174_1 : (zX122 174).2.2.2.2 1 = .ref 177 := Eq.trans rfl rfl
theorem rx_174_2 : (zX122 174).2.2.2.2 2 = .ref 179 := Eq.trans rfl rfl
theorem ix_174 (j : Nat) : (zX122 174).2.1 j = 0 := Eq.trans rfl rfl
theorem kx_175 : (zX122 175).1 = (0, 13) := Eq.trans rfl rfl
theorem rx_175_12 : (zX122 175).2.2.2.2 12 = .ref 176 := Eq.trans rfl rfl
theorem ix_175 (j : Nat) : (zX122 175).2.1 j = if j = 4 then -4 else 0 := Eq.trans rfl rfl
theorem bx_175 (j : Nat) : (zX122 175).2.2.1 j = false := Eq.trans rfl rfl
theorem lx_175 (j : Nat) : (zX122 175).2.2.2.1 j = 0 := Eq.trans rfl rfl
theorem kx_176 : (zX122 176).1 = (100, 24) := Eq.trans rfl rfl
theorem ix_176 (j : Nat) : (zX122 176).2.1 j = if j < 24 then -4 else 0 := Eq.trans rfl rfl
theorem kx_177 : (zX122 177).1 = (0, 13) := Eq.trans rfl rfl
theorem rx_177_12 : (zX122 177).2.2.2.2 12 = .ref 178 := Eq.trans rfl rfl
theorem ix_177 (j : Nat) : (zX122 177).2.1 j = if j = 4 then -4 else 0 := Eq.trans rfl rfl
theorem bx_177 (j : Nat) : (zX122 177).2.2.1 j = false := Eq.trans rfl rfl
theorem lx_177 (j : Nat) : (zX122 177).2.2.2.1 j = 0 := Eq.trans rfl rfl
theorem kx_178 : (zX122 178).1 = (100, 24) := Eq.trans rfl rfl
theorem ix_178 (j : Nat) : (zX122 178).2.1 j = if j < 24 then -4 else 0 := Eq.trans rfl rfl
theorem kx_179 : (zX122 179).1 = (0, 13) := Eq.trans rfl rfl
theorem rx_179_12 : (zX122 179).2.2.2.2 12 = .ref 180 := Eq.trans rfl rfl
theorem ix_179 (j : Nat) : (zX122 179).2.1 j = if j = 4 then -4 else 0 := Eq.trans rfl rfl
theorem bx_179 (j : Nat) : (zX122 179).2.2.1 j = false := Eq.trans rfl rfl
theorem lx_179 (j : Nat) : (zX122 179).2.2.2.1 j = 0 := Eq.trans rfl rfl
theorem kx_180 : (zX122 180).1 = (100, 24) := Eq.trans rfl rfl
theorem ix_180 (j : Nat) : (zX122 180).2.1 j = if j < 24 then -4 else 0 := Eq.trans rfl rfl
theorem kx_181 : (zX122 181).1 = (6, 2) := Eq.trans rfl rfl
theorem rx_181_0 : (zX122 181).2.2.2.2 0 = .ref 182 := Eq.trans rfl rfl
theorem rx_181_1 : (zX122 181).2.2.2.2 1 = .ref 190 := Eq.trans rfl rfl
theorem ix_181 (j : Nat) : (zX122 181).2.1 j = 0 := Eq.trans rfl rfl
theorem bx_181 (j : Nat) : (zX122 181).2.2.1 j = false := Eq.trans rfl rfl
theorem lx_181 (j : Nat) : (zX122 181).2.2.2.1 j = 0 := Eq.trans rfl rfl
theorem kx_182 : (zX122 182).1 = (4, 10) := Eq.trans rfl rfl
theorem rx_182_3 : (zX122 182).2.2.2.2 3 = .ref 183 := Eq.trans rfl rfl
theorem rx_182_4 : (zX122 182).2.2.2.2 4 = .ref 184 := Eq.trans rfl rfl
theorem rx_182_5 : (zX122 182).2.2.2.2 5 = .ref 185 := Eq.trans rfl rfl
theorem rx_182_6 : (zX122 182).2.2.2.2 6 = .ref 186 := Eq.trans rfl rfl
theorem rx_182_7 : (zX122 182).2.2.2.2 7 = .ref 187 := Eq.trans rfl rfl
theorem rx_182_8 : (zX122 182).2.2.2.2 8 = .ref 188 := Eq.trans rfl rfl
theorem rx_182_9 : (zX122 182).2.2.2.2 9 = .ref 189 := Eq.trans rfl rfl
theorem ix_182 (j : Nat) : (zX122 182).2.1 j = if j = 0 then 1 else if j = 2 then 3 else 0 := Eq.trans rfl rfl
theorem bx_182 (j : Nat) : (zX122 182).2.2.1 j = false := Eq.trans rfl rfl
theorem lx_182 (j : Nat) : (zX122 182).2.2.2.1 j = 0 := Eq.trans rfl rfl
theorem kx_183 : (zX122 183).1 = (100, 24) := Eq.trans rfl rfl
theorem ix_183 (j : Nat) : (zX122 183).2.1 j = 0 := Eq.trans rfl rfl
theorem kx_184 : (zX122 184).1 = (100, 24) := Eq.trans rfl rfl
theorem ix_184 (j : Nat) : (zX122 184).2.1 j = 0 := Eq.trans rfl rfl
theorem kx_185 : (zX122 185).1 = (100, 24) := Eq.trans rfl rfl
theorem ix_185 (j : Nat) : (zX122 185).2.1 j = if j = 0 then 100 else 0 := Eq.trans rfl rfl
theorem kx_186 : (zX122 186).1 = (100, 24) := Eq.trans rfl rfl
theorem ix_186 (j : Nat) : (zX122 186).2.1 j = if j = 0 then -4 else 0 := Eq.trans rfl rfl
theorem kx_187 : (zX122 187).1 = (101, 24) := Eq.trans rfl rfl
theorem bx_187 (j : Nat) : (zX122 187).2.2.1 j = false := Eq.trans rfl rfl
theorem kx_188 : (zX122 188).1 = (100, 120) := Eq.trans rfl rfl
theorem ix_188 (j : Nat) : (zX122 188).2.1 j = 0 := Eq.trans rfl rfl
theorem kx_189 : (zX122 189).1 = (100, 120) := Eq.trans rfl rfl
theorem ix_189 (j : Nat) : (zX122 189).2.1 j = 0 := Eq.trans rfl rfl
theorem kx_190 : (zX122 190).1 = (104, 3) := Eq.trans rfl rfl
theorem rx_190_0 : (zX122 190).2.2.2.2 0 = .ref 191 := Eq.trans rfl rfl
theorem rx_190_1 : (zX122 190).2.2.2.2 1 = .ref 193 := Eq.trans rfl rfl
theorem rx_190_2 : (zX122 190).2.2.2.2 2 = .ref 195 := Eq.trans rfl rfl
theorem ix_190 (j : Nat) : (zX122 190).2.1 j = 0 := Eq.trans rfl rfl
theorem kx_191 : (zX122 191).1 = (0, 13) := Eq.trans rfl rfl
theorem rx_191_12 : (zX122 191).2.2.2.2 12 = .ref 192 := Eq.trans rfl rfl
theorem ix_191 (j : Nat) : (zX122 191).2.1 j = if j = 4 then -4 else 0 := Eq.trans rfl rfl
theorem bx_191 (j : Nat) : (zX122 191).2.2.1 j = false := Eq.trans rfl rfl
theorem lx_191 (j : Nat) : (zX122 191).2.2.2.1 j = 0 := Eq.trans rfl rfl
theorem kx_192 : (zX122 192).1 = (100, 24) := Eq.trans rfl rfl
theorem ix_192 (j : Nat) : (zX122 192).2.1 j = if j < 24 then -4 else 0 := Eq.trans rfl rfl
theorem kx_193 : (zX122 193).1 = (0, 13) := Eq.trans rfl rfl
theorem rx_193_12 : (zX122 193).2.2.2.2 12 = .ref 194 := Eq.trans rfl rfl
theorem ix_193 (j : Nat) : (zX122 193).2.1 j = if j = 4 then -4 else 0 := Eq.trans rfl rfl
theorem bx_193 (j : Nat) : (zX122 193).2.2.1 j = false := Eq.trans rfl rfl
theorem lx_193 (j : Nat) : (zX122 193).2.2.2.1 j = 0 := Eq.trans rfl rfl
theorem kx_194 : (zX122 194).1 = (100, 24) := Eq.trans rfl rfl
theorem ix_194 (j : Nat) : (zX122 194).2.1 j = if j < 24 then -4 else 0 := Eq.trans rfl rfl
theorem kx_195 : (zX122 195).1 = (0, 13) := Eq.trans rfl rfl
theorem rx_195_12 : (zX122 195).2.2.2.2 12 = .ref 196 := Eq.trans rfl rfl
theorem ix_195 (j : Nat) : (zX122 195).2.1 j = if j = 4 then -4 else 0 := Eq.trans rfl rfl
theorem bx_195 (j : Nat) : (zX122 195).2.2.1 j = false := Eq.trans rfl rfl
theorem lx_195 (j : Nat) : (zX122 195).2.2.2.1 j = 0 := Eq.trans rfl rfl
theorem kx_196 : (zX122 196).1 = (100, 24) := Eq.trans rfl rfl
theorem ix_196 (j : Nat) : (zX122 196).2.1 j = if j < 24 then -4 else 0 := Eq.trans rfl rfl
theorem kx_197 : (zX122 197).1 = (3, 6) := Eq.trans rfl rfl
theorem rx_197_0 : (zX122 197).2.2.2.2 0 = .ref 198 := Eq.trans rfl rfl
theorem ix_197 (j : Nat) : (zX122 197).2.1 j = 0 := by
  show (if j = 1 then (0 : Int32) else 0) = 0
  split <;> rfl
theorem bx_197 (j : Nat) : (zX122 197).2.2.1 j = false := Eq.trans rfl rfl
theorem lx_197 (j : Nat) : (zX122 197).2.2.2.1 j = 0 := Eq.trans rfl rfl
theorem kx_198 : (zX122 198).1 = (100, 160) := Eq.trans rfl rfl
theorem ix_198 (j : Nat) : (zX122 198).2.1 j = 0 := Eq.trans rfl rfl
theorem kx_199 : (zX122 199).1 = (1, 9) := Eq.trans rfl rfl
theorem rx_199_5 : (zX122 199).2.2.2.2 5 = .ref 200 := Eq.trans rfl rfl
theorem rx_199_6 : (zX122 199).2.2.2.2 6 = .ref 201 := Eq.trans rfl rfl
theorem rx_199_7 : (zX122 199).2.2.2.2 7 = .ref 202 := Eq.trans rfl rfl
theorem ix_199 (j : Nat) : (zX122 199).2.1 j = 0 := Eq.trans rfl rfl
theorem bx_199 (j : Nat) : (zX122 199).2.2.1 j = false := Eq.trans rfl rfl
theorem lx_199 (j : Nat) : (zX122 199).2.2.2.1 j = 0 := Eq.trans rfl rfl
theorem kx_200 : (zX122 200).1 = (100, 40) := Eq.trans rfl rfl
theorem ix_200 (j : Nat) : (zX122 200).2.1 j = 0 := Eq.trans rfl rfl
theorem kx_201 : (zX122 201).1 = (100, 40) := Eq.trans rfl rfl
theorem ix_201 (j : Nat) : (zX122 201).2.1 j = 0 := Eq.trans rfl rfl
theorem kx_202 : (zX122 202).1 = (100, 3) := Eq.trans rfl rfl
theorem ix_202 (j : Nat) : (zX122 202).2.1 j = 0 := Eq.trans rfl rfl
theorem kx_203 : (zX122 203).1 = (2, 3) := Eq.trans rfl rfl
theorem rx_203_0 : (zX122 203).2.2.2.2 0 = .ref 204 := Eq.trans rfl rfl
theorem rx_203_1 : (zX122 203).2.2.2.2 1 = .ref 205 := Eq.trans rfl rfl
theorem rx_203_2 : (zX122 203).2.2.2.2 2 = .ref 206 := Eq.trans rfl rfl
theorem ix_203 (j : Nat) : (zX122 203).2.1 j = 0 := Eq.trans rfl rfl
theorem bx_203 (j : Nat) : (zX122 203).2.2.1 j = false := Eq.trans rfl rfl
theorem lx_203 (j : Nat) : (zX122 203).2.2.2.1 j = 0 := Eq.trans rfl rfl
theorem kx_204 : (zX122 204).1 = (100, 4) := Eq.trans rfl rfl
theorem ix_204 (j : Nat) : (zX122 204).2.1 j = if j = 3 then -4 else if j = 2 then -4 else if j = 1 then -4 else if j = 0 then -4 else 0 := Eq.trans rfl rfl
theorem kx_205 : (zX122 205).1 = (100, 4) := Eq.trans rfl rfl
theorem ix_205 (j : Nat) : (zX122 205).2.1 j = 0 := Eq.trans rfl rfl
theorem kx_206 : (zX122 206).1 = (105, 4) := Eq.trans rfl rfl
theorem rx_206_0 : (zX122 206).2.2.2.2 0 = .ref 207 := Eq.trans rfl rfl
theorem rx_206_1 : (zX122 206).2.2.2.2 1 = .ref 208 := Eq.trans rfl rfl
theorem rx_206_2 : (zX122 206).2.2.2.2 2 = .ref 209 := Eq.trans rfl rfl
theorem rx_206_3 : (zX122 206).2.2.2.2 3 = .ref 210 := Eq.trans rfl rfl
theorem ix_206 (j : Nat) : (zX122 206).2.1 j = 0 := Eq.trans rfl rfl
theorem kx_207 : (zX122 207).1 = (100, 40) := Eq.trans rfl rfl
theorem ix_207 (j : Nat) : (zX122 207).2.1 j = 0 := Eq.trans rfl rfl
theorem kx_208 : (zX122 208).1 = (100, 40) := Eq.trans rfl rfl
theorem ix_208 (j : Nat) : (zX122 208).2.1 j = 0 := Eq.trans rfl rfl
theorem kx_209 : (zX122 209).1 = (100, 40) := Eq.trans rfl rfl
theorem ix_209 (j : Nat) : (zX122 209).2.1 j = 0 := Eq.trans rfl rfl
theorem kx_210 : (zX122 210).1 = (100, 40) := Eq.trans rfl rfl
theorem ix_210 (j : Nat) : (zX122 210).2.1 j = 0 := Eq.trans rfl rfl
theorem kx_211 : (zX122 211).1 = (8, 39) := Eq.trans rfl rfl
theorem rx_211_0 : (zX122 211).2.2.2.2 0 = .ref 212 := Eq.trans rfl rfl
theorem rx_211_1 : (zX122 211).2.2.2.2 1 = .ref 213 := Eq.trans rfl rfl
theorem rx_211_2 : (zX122 211).2.2.2.2 2 = .ref 214 := Eq.trans rfl rfl
theorem rx_211_3 : (zX122 211).2.2.2.2 3 = .ref 215 := Eq.trans rfl rfl
theorem rx_211_4 : (zX122 211).2.2.2.2 4 = .ref 216 := Eq.trans rfl rfl
theorem rx_211_6 : (zX122 211).2.2.2.2 6 = .ref 217 := Eq.trans rfl rfl
theorem rx_211_7 : (zX122 211).2.2.2.2 7 = .ref 218 := Eq.trans rfl rfl
theorem rx_211_17 : (zX122 211).2.2.2.2 17 = .ref 219 := Eq.trans rfl rfl
theorem rx_211_19 : (zX122 211).2.2.2.2 19 = .ref 220 := Eq.trans rfl rfl
theorem rx_211_21 : (zX122 211).2.2.2.2 21 = .ref 221 := Eq.trans rfl rfl
theorem rx_211_22 : (zX122 211).2.2.2.2 22 = .ref 222 := Eq.trans rfl rfl
theorem rx_211_23 : (zX122 211).2.2.2.2 23 = .ref 223 := Eq.trans rfl rfl
theorem rx_211_24 : (zX122 211).2.2.2.2 24 = .ref 224 := Eq.trans rfl rfl
theorem rx_211_25 : (zX122 211).2.2.2.2 25 = .ref 225 := Eq.trans rfl rfl
theorem rx_211_26 : (zX122 211).2.2.2.2 26 = .ref 226 := Eq.trans rfl rfl
theorem rx_211_32 : (zX122 211).2.2.2.2 32 = .ref 227 := Eq.trans rfl rfl
theorem rx_211_33 : (zX122 211).2.2.2.2 33 = .ref 228 := Eq.trans rfl rfl
theorem rx_211_34 : (zX122 211).2.2.2.2 34 = .ref 229 := Eq.trans rfl rfl
theorem rx_211_35 : (zX122 211).2.2.2.2 35 = .ref 230 := Eq.trans rfl rfl
theorem rx_211_36 : (zX122 211).2.2.2.2 36 = .ref 231 := Eq.trans rfl rfl
theorem rx_211_37 : (zX122 211).2.2.2.2 37 = .ref 232 := Eq.trans rfl rfl
theorem ix_211 (j : Nat) : (zX122 211).2.1 j = 0 := Eq.trans rfl rfl
theorem bx_211 (j : Nat) : (zX122 211).2.2.1 j = false := Eq.trans rfl rfl
theorem lx_211 (j : Nat) : (zX122 211).2.2.2.1 j = 0 := Eq.trans rfl rfl
theorem kx_212 : (zX122 212).1 = (100, 387) := Eq.trans rfl rfl
theorem ix_212 (j : Nat) : (zX122 212).2.1 j = if j = 314 then 3 else if j = 312 then 1 else if j = 3 then -4 else if j = 2 then 100 else 0 := Eq.trans rfl rfl
theorem kx_213 : (zX122 213).1 = (100, 774) := Eq.trans rfl rfl
theorem ix_213 (j : Nat) : (zX122 213).2.1 j = 0 := Eq.trans rfl rfl
theorem kx_214 : (zX122 214).1 = (101, 2) := Eq.trans rfl rfl
theorem bx_214 (j : Nat) : (zX122 214).2.2.1 j = false := Eq.trans rfl rfl
theorem kx_215 : (zX122 215).1 = (100, 5) := Eq.trans rfl rfl
theorem ix_215 (j : Nat) : (zX122 215).2.1 j = 0 := Eq.trans rfl rfl
theorem kx_216 : (zX122 216).1 = (100, 5) := Eq.trans rfl rfl
theorem ix_216 (j : Nat) : (zX122 216).2.1 j = 0 := Eq.trans rfl rfl
theorem kx_217 : (zX122 217).1 = (101, 3) := Eq.trans rfl rfl
theorem bx_217 (j : Nat) : (zX122 217).2.2.1 j = false := Eq.trans rfl rfl
theorem kx_218 : (zX122 218).1 = (100, 160) := Eq.trans rfl rfl
theorem ix_218 (j : Nat) : (zX122 218).2.1 j = 0 := Eq.trans rfl rfl
theorem kx_219 : (zX122 219).1 = (100, 80) := Eq.trans rfl rfl
theorem ix_219 (j : Nat) : (zX122 219).2.1 j = 0 := Eq.trans rfl rfl
theorem kx_220 : (zX122 220).1 = (100, 6) := Eq.trans rfl rfl
theorem ix_220 (j : Nat) : (zX122 220).2.1 j = 0 := Eq.trans rfl rfl
theorem kx_221 : (zX122 221).1 = (100, 3096) := Eq.trans rfl rfl
theorem ix_221 (j : Nat) : (zX122 221).2.1 j = 0 := Eq.trans rfl rfl
theorem kx_222 : (zX122 222).1 = (100, 8) := Eq.trans rfl rfl
theorem ix_222 (j : Nat) : (zX122 222).2.1 j = 0 := Eq.trans rfl rfl
theorem kx_223 : (zX122 223).1 = (100, 8) := Eq.trans rfl rfl
theorem ix_223 (j : Nat) : (zX122 223).2.1 j = 0 := Eq.trans rfl rfl
theorem kx_224 : (zX122 224).1 = (100, 8) := Eq.trans rfl rfl
theorem ix_224 (j : Nat) : (zX122 224).2.1 j = 0 := Eq.trans rfl rfl
theorem kx_225 : (zX122 225).1 = (100, 8) := Eq.trans rfl rfl
theorem ix_225 (j : Nat) : (zX122 225).2.1 j = 0 := Eq.trans rfl rfl
theorem kx_226 : (zX122 226).1 = (102, 8) := Eq.trans rfl rfl
theorem lx_226 (j : Nat) : (zX122 226).2.2.2.1 j = 0 := Eq.trans rfl rfl
theorem kx_227 : (zX122 227).1 = (100, 6) := Eq.trans rfl rfl
theorem ix_227 (j : Nat) : (zX122 227).2.1 j = 0 := Eq.trans rfl rfl
theorem kx_228 : (zX122 228).1 = (100, 6) := Eq.trans rfl rfl
theorem ix_228 (j : Nat) : (zX122 228).2.1 j = 0 := Eq.trans rfl rfl
theorem kx_229 : (zX122 229).1 = (102, 6) := Eq.trans rfl rfl
theorem lx_229 (j : Nat) : (zX122 229).2.2.2.1 j = 0 := Eq.trans rfl rfl
theorem kx_230 : (zX122 230).1 = (100, 4) := Eq.trans rfl rfl
theorem ix_230 (j : Nat) : (zX122 230).2.1 j = if j = 3 then -4 else if j = 2 then -4 else if j = 1 then -4 else if j = 0 then -4 else 0 := Eq.trans rfl rfl
theorem kx_231 : (zX122 231).1 = (100, 4) := Eq.trans rfl rfl
theorem ix_231 (j : Nat) : (zX122 231).2.1 j = 0 := Eq.trans rfl rfl
theorem kx_232 : (zX122 232).1 = (100, 160) := Eq.trans rfl rfl
theorem ix_232 (j : Nat) : (zX122 232).2.1 j = 0 := Eq.trans rfl rfl
/-- the shape that never changes -/
def Sh (h : zi_Hp) : Prop := zh_n h = 233 ∧ zh_s h = 11082 ∧ (∀ b, zh_k h b = (zX122 b).1) ∧ (∀ b j, zh_r h b j = (zX122 b).2.2.2.2 j)
theorem Sh.n {h : zi_Hp} (S : Sh h) : zh_n h = 233 := S.1
theorem Sh.k {h : zi_Hp} (S : Sh h) (b : Nat) : zh_k h b = (zX122 b).1 := S.2.2.1 b
theorem Sh.r {h : zi_Hp} (S : Sh h) (b j : Nat) : zh_r h b j = (zX122 b).2.2.2.2 j := S.2.2.2 b j
theorem Sh.wi {h : zi_Hp} (S : Sh h) (a k : Nat) (v : Int32) : Sh (zh_wi h a k v) := S
theorem Sh.wb {h : zi_Hp} (S : Sh h) (a k : Nat) (v : Bool) : Sh (zh_wb h a k v) := S
theorem Sh.wl {h : zi_Hp} (S : Sh h) (a k : Nat) (v : Int64) : Sh (zh_wl h a k v) := S
theorem Sh.ci {h : zi_Hp} (S : Sh h) (a b c d e : Nat) : Sh (zh_ci h a b c d e) := S
theorem Sh.cb {h : zi_Hp} (S : Sh h) (a b c d e : Nat) : Sh (zh_cb h a b c d e) := S
theorem Sh.fi {h : zi_Hp} (S : Sh h) (a n : Nat) (v : Int32) : Sh (zh_fi h a n v) := S
section ZFS
variable {L : Nat} {xs : Nat → Int32}
theorem zF_Sh : Sh (zF L xs) := ⟨rfl, rfl, fun _ => rfl, fun _ _ => rfl⟩
theorem zF_n : zh_n (zF L xs) = 233 := Eq.trans rfl rfl
theorem zF_k (b : Nat) : zh_k (zF L xs) b = (zX122 b).1 := Eq.trans rfl rfl
theorem zF_i (b j : Nat) : zh_i (zF L xs) b j = (zX122 b).2.1 j := Eq.trans rfl rfl
theorem zF_b (b j : Nat) : zh_b (zF L xs) b j = (zX122 b).2.2.1 j := Eq.trans rfl rfl
theorem zF_l (b j : Nat) : zh_l (zF L xs) b j = (zX122 b).2.2.2.1 j := Eq.trans rfl rfl
theorem zF_r (b j : Nat) : zh_r (zF L xs) b j = (zX122 b).2.2.2.2 j := Eq.trans rfl rfl
theorem zF_L : zh_L (zF L xs) = L := Eq.trans rfl rfl
theorem zF_x (j : Nat) : zh_x (zF L xs) j = xs j := Eq.trans rfl rfl
end ZFS
