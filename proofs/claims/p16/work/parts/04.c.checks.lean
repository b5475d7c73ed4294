theorem zi_okC : ∀ o, o < 13 → zi_okCl o = true := by decide +kernel
theorem zi_okW0 {y : MethodName} {code : ByteArray} {maxL own rk na pC pI pS pN : Nat} {rt : Option FieldType} {l : List (Nat × zi_RI)} (h1 : zi_own own = y.cls) (h2 : own < 9) (hC : lw_tbl[pC]? = some (.code y code maxL rt)) (hN : lw_tbl[pN]? = some (.initialized y.cls)) (hm : maxL ≤ 40) (hI : lw_tbl[pI]? = some (.instanceMethod y)) (hS : lw_tbl[pS]? = some (.selects y.cls y y)) (hd : decide ((parseMethodDescriptor y.desc).map (fun d => d.parameters.length + 1) = some na) = true) : zi_okW (y, code, maxL, rt, own, rk, na, 0, pC, pI, pS, pN, l) = true := by
  have a1 : own < 13 := by omega
  have a2 : own ≠ 11 := by omega
  simp only [zi_okW, zi_wd, hC, hN, hI, hS, hd, h1, h2, hm, a1, a2, decide_true, Bool.and_true, Bool.or_true, ne_eq, not_false_eq_true]
theorem zi_okW1 {y : MethodName} {code : ByteArray} {maxL own rk na pC pI pS pN : Nat} {rt : Option FieldType} {l : List (Nat × zi_RI)} (h1 : zi_own own = y.cls) (h2 : own < 13) (ho : own ≠ 11) (hC : lw_tbl[pC]? = some (.code y code maxL rt)) (hN : lw_tbl[pN]? = some (.initialized y.cls)) (hm : maxL ≤ 40) (hI : lw_tbl[pI]? = some (.static y)) (hd : decide ((parseMethodDescriptor y.desc).map (fun d => d.parameters.length) = some na) = true) : zi_okW (y, code, maxL, rt, own, rk, na, 1, pC, pI, pS, pN, l) = true := by
  simp only [zi_okW, zi_wd, hC, hN, hI, hd, h1, h2, hm, ho, decide_true, Bool.and_true, Bool.or_true, ne_eq, not_false_eq_true]
theorem zi_okW2 {y : MethodName} {code : ByteArray} {maxL own rk na pC pI pS pN : Nat} {l : List (Nat × zi_RI)} (h1 : zi_own own = y.cls) (h2 : own < 13) (ho : own ≠ 11) (hC : lw_tbl[pC]? = some (.code y code maxL none)) (hN : lw_tbl[pN]? = some (.initialized y.cls)) (hm : maxL ≤ 40) (hI : lw_tbl[pI]? = some (.instanceMethod y)) (hd : decide ((parseMethodDescriptor y.desc).map (fun d => d.parameters.length + 1) = some na) = true) (hi : y.name = "<init>") : zi_okW (y, code, maxL, none, own, rk, na, 2, pC, pI, pS, pN, l) = true := by
  simp only [zi_okW, zi_wd, hC, hN, hI, hd, h1, h2, hm, ho, hi, decide_true, Bool.and_true, Bool.or_true, ne_eq, not_false_eq_true]
set_option maxRecDepth 20000 in
theorem zi_ok0 : zi_okM zi_m0 = true := zi_okM_of (show zi_i0.all _ = true from zi_ok0_0) (zi_okW2 rfl (by decide) (by decide) (zt_1 (k := 99) rfl rfl) (zt_1 (k := 4) rfl rfl) (by decide) (zt_1 (k := 98) rfl rfl) (by decide +kernel) rfl)
set_option maxRecDepth 20000 in
theorem zi_ok1 : zi_okM zi_m1 = true := zi_okM_of (show zi_i1.all _ = true from zi_ok1_0) (zi_okW0 rfl (by decide) (zt_1 (k := 104) rfl rfl) (zt_1 (k := 4) rfl rfl) (by decide) (zt_1 (k := 103) rfl rfl) (zt_0 (k := 0) rfl) (by decide +kernel))
set_option maxRecDepth 20000 in
theorem zi_ok2 : zi_okM zi_m2 = true := zi_okM_of (show zi_i2.all _ = true from zi_all_app zi_ok2_0 (zi_ok2_1)) (zi_okW0 rfl (by decide) (zt_3 (k := 18) rfl rfl) (zt_1 (k := 4) rfl rfl) (by decide) (zt_3 (k := 16) rfl rfl) (zt_3 (k := 17) rfl rfl) (by decide +kernel))
set_option maxRecDepth 20000 in
theorem zi_ok3 : zi_okM zi_m3 = true := zi_okM_of (show zi_i3.all _ = true from zi_all_app zi_ok3_0 (zi_all_app zi_ok3_1 (zi_all_app zi_ok3_2 (zi_all_app zi_ok3_3 (zi_ok3_4))))) (zi_okW0 rfl (by decide) (zt_4 (k := 65) rfl rfl) (zt_1 (k := 4) rfl rfl) (by decide) (zt_4 (k := 63) rfl rfl) (zt_4 (k := 64) rfl rfl) (by decide +kernel))
set_option maxRecDepth 20000 in
theorem zi_ok4 : zi_okM zi_m4 = true := zi_okM_of (show zi_i4.all _ = true from zi_ok4_0) (zi_okW0 rfl (by decide) (zt_3 (k := 38) rfl rfl) (zt_1 (k := 4) rfl rfl) (by decide) (zt_3 (k := 36) rfl rfl) (zt_3 (k := 37) rfl rfl) (by decide +kernel))
set_option maxRecDepth 20000 in
theorem zi_ok5 : zi_okM zi_m5 = true := zi_okM_of (show zi_i5.all _ = true from zi_all_app zi_ok5_0 (zi_ok5_1)) (zi_okW0 rfl (by decide) (zt_3 (k := 66) rfl rfl) (zt_1 (k := 4) rfl rfl) (by decide) (zt_3 (k := 64) rfl rfl) (zt_3 (k := 65) rfl rfl) (by decide +kernel))
set_option maxRecDepth 20000 in
theorem zi_ok6 : zi_okM zi_m6 = true := zi_okM_of (show zi_i6.all _ = true from zi_ok6_0) (zi_okW0 rfl (by decide) (zt_3 (k := 111) rfl rfl) (zt_1 (k := 4) rfl rfl) (by decide) (zt_3 (k := 109) rfl rfl) (zt_3 (k := 110) rfl rfl) (by decide +kernel))
set_option maxRecDepth 20000 in
theorem zi_ok7 : zi_okM zi_m7 = true := zi_okM_of (show zi_i7.all _ = true from zi_ok7_0) (zi_okW0 rfl (by decide) (zt_3 (k := 163) rfl rfl) (zt_1 (k := 4) rfl rfl) (by decide) (zt_3 (k := 161) rfl rfl) (zt_3 (k := 162) rfl rfl) (by decide +kernel))
set_option maxRecDepth 20000 in
theorem zi_ok8 : zi_okM zi_m8 = true := zi_okM_of (show zi_i8.all _ = true from zi_ok8_0) (zi_okW0 rfl (by decide) (zt_3 (k := 146) rfl rfl) (zt_1 (k := 4) rfl rfl) (by decide) (zt_3 (k := 144) rfl rfl) (zt_3 (k := 145) rfl rfl) (by decide +kernel))
set_option maxRecDepth 20000 in
theorem zi_ok9 : zi_okM zi_m9 = true := zi_okM_of (show zi_i9.all _ = true from zi_ok9_0) (zi_okW0 rfl (by decide) (zt_3 (k := 86) rfl rfl) (zt_1 (k := 4) rfl rfl) (by decide) (zt_3 (k := 84) rfl rfl) (zt_3 (k := 85) rfl rfl) (by decide +kernel))
set_option maxRecDepth 20000 in
theorem zi_ok10 : zi_okM zi_m10 = true := zi_okM_of (show zi_i10.all _ = true from zi_all_app zi_ok10_0 (zi_all_app zi_ok10_1 (zi_ok10_2))) (zi_okW0 rfl (by decide) (zt_4 (k := 94) rfl rfl) (zt_1 (k := 4) rfl rfl) (by decide) (zt_4 (k := 92) rfl rfl) (zt_4 (k := 93) rfl rfl) (by decide +kernel))
set_option maxRecDepth 20000 in
theorem zi_ok11 : zi_okM zi_m11 = true := zi_okM_of (show zi_i11.all _ = true from zi_all_app zi_ok11_0 (zi_all_app zi_ok11_1 (zi_ok11_2))) (zi_okW0 rfl (by decide) (zt_3 (k := 234) rfl rfl) (zt_1 (k := 4) rfl rfl) (by decide) (zt_3 (k := 232) rfl rfl) (zt_3 (k := 233) rfl rfl) (by decide +kernel))
set_option maxRecDepth 20000 in
theorem zi_ok12 : zi_okM zi_m12 = true := zi_okM_of (show zi_i12.all _ = true from zi_all_app zi_ok12_0 (zi_ok12_1)) (zi_okW2 rfl (by decide) (by decide) (zt_2 (k := 22) rfl rfl) (zt_1 (k := 8) rfl rfl) (by decide) (zt_2 (k := 21) rfl rfl) (by decide +kernel) rfl)
set_option maxRecDepth 20000 in
theorem zi_ok13 : zi_okM zi_m13 = true := zi_okM_of (show zi_i13.all _ = true from zi_all_app zi_ok13_0 (zi_all_app zi_ok13_1 (zi_all_app zi_ok13_2 (zi_all_app zi_ok13_3 (zi_ok13_4))))) (zi_okW0 rfl (by decide) (zt_2 (k := 127) rfl rfl) (zt_1 (k := 8) rfl rfl) (by decide) (zt_2 (k := 125) rfl rfl) (zt_2 (k := 126) rfl rfl) (by decide +kernel))
set_option maxRecDepth 20000 in
theorem zi_ok14 : zi_okM zi_m14 = true := zi_okM_of (show zi_i14.all _ = true from zi_all_app zi_ok14_0 (zi_all_app zi_ok14_1 (zi_all_app zi_ok14_2 (zi_ok14_3)))) (zi_okW0 rfl (by decide) (zt_2 (k := 154) rfl rfl) (zt_1 (k := 8) rfl rfl) (by decide) (zt_2 (k := 153) rfl rfl) (zt_0 (k := 3) rfl) (by decide +kernel))
set_option maxRecDepth 20000 in
theorem zi_ok15 : zi_okM zi_m15 = true := zi_okM_of (show zi_i15.all _ = true from zi_all_app zi_ok15_0 (zi_all_app zi_ok15_1 (zi_ok15_2))) (zi_okW0 rfl (by decide) (zt_2 (k := 211) rfl rfl) (zt_1 (k := 8) rfl rfl) (by decide) (zt_2 (k := 210) rfl rfl) (zt_0 (k := 4) rfl) (by decide +kernel))
set_option maxRecDepth 20000 in
theorem zi_ok16 : zi_okM zi_m16 = true := zi_okM_of (show zi_i16.all _ = true from zi_all_app zi_ok16_0 (zi_all_app zi_ok16_1 (zi_all_app zi_ok16_2 (zi_all_app zi_ok16_3 (zi_all_app zi_ok16_4 (zi_all_app zi_ok16_5 (zi_ok16_6))))))) (zi_okW0 rfl (by decide) (zt_2 (k := 232) rfl rfl) (zt_1 (k := 8) rfl rfl) (by decide) (zt_2 (k := 231) rfl rfl) (zt_0 (k := 9) rfl) (by decide +kernel))
set_option maxRecDepth 20000 in
theorem zi_ok17 : zi_okM zi_m17 = true := zi_okM_of (show zi_i17.all _ = true from zi_all_app zi_ok17_0 (zi_all_app zi_ok17_1 (zi_all_app zi_ok17_2 (zi_ok17_3)))) (zi_okW0 rfl (by decide) (zt_2 (k := 238) rfl rfl) (zt_1 (k := 8) rfl rfl) (by decide) (zt_2 (k := 237) rfl rfl) (zt_0 (k := 10) rfl) (by decide +kernel))
set_option maxRecDepth 20000 in
theorem zi_ok18 : zi_okM zi_m18 = true := zi_okM_of (show zi_i18.all _ = true from zi_all_app zi_ok18_0 (zi_all_app zi_ok18_1 (zi_ok18_2))) (zi_okW0 rfl (by decide) (zt_2 (k := 219) rfl rfl) (zt_1 (k := 8) rfl rfl) (by decide) (zt_2 (k := 218) rfl rfl) (zt_0 (k := 6) rfl) (by decide +kernel))
set_option maxRecDepth 20000 in
theorem zi_ok19 : zi_okM zi_m19 = true := zi_okM_of (show zi_i19.all _ = true from zi_ok19_0) (zi_okW0 rfl (by decide) (zt_2 (k := 227) rfl rfl) (zt_1 (k := 8) rfl rfl) (by decide) (zt_2 (k := 226) rfl rfl) (zt_0 (k := 8) rfl) (by decide +kernel))
set_option maxRecDepth 20000 in
theorem zi_ok20 : zi_okM zi_m20 = true := zi_okM_of (show zi_i20.all _ = true from zi_all_app zi_ok20_0 (zi_ok20_1)) (zi_okW0 rfl (by decide) (zt_2 (k := 223) rfl rfl) (zt_1 (k := 8) rfl rfl) (by decide) (zt_2 (k := 222) rfl rfl) (zt_0 (k := 7) rfl) (by decide +kernel))
set_option maxRecDepth 20000 in
theorem zi_ok21 : zi_okM zi_m21 = true := zi_okM_of (show zi_i21.all _ = true from zi_ok21_0) (zi_okW0 rfl (by decide) (zt_2 (k := 215) rfl rfl) (zt_1 (k := 8) rfl rfl) (by decide) (zt_2 (k := 214) rfl rfl) (zt_0 (k := 5) rfl) (by decide +kernel))
set_option maxRecDepth 20000 in
theorem zi_ok22 : zi_okM zi_m22 = true := zi_okM_of (show zi_i22.all _ = true from zi_all_app zi_ok22_0 (zi_all_app zi_ok22_1 (zi_ok22_2))) (zi_okW2 rfl (by decide) (by decide) (zt_2 (k := 64) rfl rfl) (zt_1 (k := 9) rfl rfl) (by decide) (zt_2 (k := 63) rfl rfl) (by decide +kernel) rfl)
set_option maxRecDepth 20000 in
theorem zi_ok23 : zi_okM zi_m23 = true := zi_okM_of (show zi_i23.all _ = true from zi_all_app zi_ok23_0 (zi_ok23_1)) (zi_okW0 rfl (by decide) (zt_4 (k := 192) rfl rfl) (zt_1 (k := 9) rfl rfl) (by decide) (zt_4 (k := 190) rfl rfl) (zt_4 (k := 191) rfl rfl) (by decide +kernel))
set_option maxRecDepth 20000 in
theorem zi_ok24 : zi_okM zi_m24 = true := zi_okM_of (show zi_i24.all _ = true from zi_all_app zi_ok24_0 (zi_all_app zi_ok24_1 (zi_ok24_2))) (zi_okW0 rfl (by decide) (zt_4 (k := 202) rfl rfl) (zt_1 (k := 9) rfl rfl) (by decide) (zt_4 (k := 200) rfl rfl) (zt_4 (k := 201) rfl rfl) (by decide +kernel))
set_option maxRecDepth 20000 in
theorem zi_ok25 : zi_okM zi_m25 = true := zi_okM_of (show zi_i25.all _ = true from zi_all_app zi_ok25_0 (zi_ok25_1)) (zi_okW0 rfl (by decide) (zt_4 (k := 214) rfl rfl) (zt_1 (k := 9) rfl rfl) (by decide) (zt_4 (k := 212) rfl rfl) (zt_4 (k := 213) rfl rfl) (by decide +kernel))
set_option maxRecDepth 20000 in
theorem zi_ok26 : zi_okM zi_m26 = true := zi_okM_of (show zi_i26.all _ = true from zi_all_app zi_ok26_0 (zi_all_app zi_ok26_1 (zi_ok26_2))) (zi_okW0 rfl (by decide) (zt_4 (k := 206) rfl rfl) (zt_1 (k := 9) rfl rfl) (by decide) (zt_4 (k := 204) rfl rfl) (zt_4 (k := 205) rfl rfl) (by decide +kernel))
set_option maxRecDepth 20000 in
theorem zi_ok27 : zi_okM zi_m27 = true := zi_okM_of (show zi_i27.all _ = true from zi_ok27_0) (zi_okW2 rfl (by decide) (by decide) (zt_1 (k := 233) rfl rfl) (zt_1 (k := 7) rfl rfl) (by decide) (zt_1 (k := 232) rfl rfl) (by decide +kernel) rfl)
set_option maxRecDepth 20000 in
theorem zi_ok28 : zi_okM zi_m28 = true := zi_okM_of (show zi_i28.all _ = true from zi_all_app zi_ok28_0 (zi_ok28_1)) (zi_okW0 rfl (by decide) (zt_2 (k := 115) rfl rfl) (zt_1 (k := 7) rfl rfl) (by decide) (zt_2 (k := 113) rfl rfl) (zt_2 (k := 114) rfl rfl) (by decide +kernel))
set_option maxRecDepth 20000 in
theorem zi_ok29 : zi_okM zi_m29 = true := zi_okM_of (show zi_i29.all _ = true from zi_ok29_0) (zi_okW0 rfl (by decide) (zt_2 (k := 132) rfl rfl) (zt_1 (k := 7) rfl rfl) (by decide) (zt_2 (k := 130) rfl rfl) (zt_2 (k := 131) rfl rfl) (by decide +kernel))
set_option maxRecDepth 20000 in
theorem zi_ok30 : zi_okM zi_m30 = true := zi_okM_of (show zi_i30.all _ = true from zi_all_app zi_ok30_0 (zi_all_app zi_ok30_1 (zi_all_app zi_ok30_2 (zi_all_app zi_ok30_3 (zi_all_app zi_ok30_4 (zi_all_app zi_ok30_5 (zi_ok30_6))))))) (zi_okW0 rfl (by decide) (zt_2 (k := 136) rfl rfl) (zt_1 (k := 7) rfl rfl) (by decide) (zt_2 (k := 134) rfl rfl) (zt_2 (k := 135) rfl rfl) (by decide +kernel))
set_option maxRecDepth 20000 in
theorem zi_ok31 : zi_okM zi_m31 = true := zi_okM_of (show zi_i31.all _ = true from zi_all_app zi_ok31_0 (zi_all_app zi_ok31_1 (zi_all_app zi_ok31_2 (zi_ok31_3)))) (zi_okW0 rfl (by decide) (zt_2 (k := 150) rfl rfl) (zt_1 (k := 7) rfl rfl) (by decide) (zt_2 (k := 149) rfl rfl) (zt_0 (k := 2) rfl) (by decide +kernel))
set_option maxRecDepth 20000 in
theorem zi_ok32 : zi_okM zi_m32 = true := zi_okM_of (show zi_i32.all _ = true from zi_all_app zi_ok32_0 (zi_all_app zi_ok32_1 (zi_ok32_2))) (zi_okW0 rfl (by decide) (zt_2 (k := 159) rfl rfl) (zt_1 (k := 7) rfl rfl) (by decide) (zt_2 (k := 157) rfl rfl) (zt_2 (k := 158) rfl rfl) (by decide +kernel))
set_option maxRecDepth 20000 in
theorem zi_ok33 : zi_okM zi_m33 = true := zi_okM_of (show zi_i33.all _ = true from zi_all_app zi_ok33_0 (zi_ok33_1)) (zi_okW0 rfl (by decide) (zt_2 (k := 140) rfl rfl) (zt_1 (k := 7) rfl rfl) (by decide) (zt_2 (k := 139) rfl rfl) (zt_0 (k := 1) rfl) (by decide +kernel))
set_option maxRecDepth 20000 in
theorem zi_ok34 : zi_okM zi_m34 = true := zi_okM_of (show zi_i34.all _ = true from zi_ok34_0) (zi_okW1 rfl (by decide) (by decide) (zt_2 (k := 143) rfl rfl) (zt_1 (k := 7) rfl rfl) (by decide) (zt_2 (k := 142) rfl rfl) (by decide +kernel))
set_option maxRecDepth 20000 in
theorem zi_ok35 : zi_okM zi_m35 = true := zi_okM_of (show zi_i35.all _ = true from zi_ok35_0) (zi_okW1 rfl (by decide) (by decide) (zt_2 (k := 146) rfl rfl) (zt_1 (k := 7) rfl rfl) (by decide) (zt_2 (k := 145) rfl rfl) (by decide +kernel))
set_option maxRecDepth 20000 in
theorem zi_ok36 : zi_okM zi_m36 = true := zi_okM_of (show zi_i36.all _ = true from zi_all_app zi_ok36_0 (zi_all_app zi_ok36_1 (zi_ok36_2))) (zi_okW2 rfl (by decide) (by decide) (zt_1 (k := 36) rfl rfl) (zt_1 (k := 3) rfl rfl) (by decide) (zt_1 (k := 35) rfl rfl) (by decide +kernel) rfl)
set_option maxRecDepth 20000 in
theorem zi_ok37 : zi_okM zi_m37 = true := zi_okM_of (show zi_i37.all _ = true from zi_ok37_0) (zi_okW0 rfl (by decide) (zt_1 (k := 41) rfl rfl) (zt_1 (k := 3) rfl rfl) (by decide) (zt_1 (k := 39) rfl rfl) (zt_1 (k := 40) rfl rfl) (by decide +kernel))
set_option maxRecDepth 20000 in
theorem zi_ok38 : zi_okM zi_m38 = true := zi_okM_of (show zi_i38.all _ = true from zi_all_app zi_ok38_0 (zi_all_app zi_ok38_1 (zi_all_app zi_ok38_2 (zi_all_app zi_ok38_3 (zi_all_app zi_ok38_4 (zi_ok38_5)))))) (zi_okW0 rfl (by decide) (zt_4 (k := 61) rfl rfl) (zt_1 (k := 3) rfl rfl) (by decide) (zt_4 (k := 59) rfl rfl) (zt_4 (k := 60) rfl rfl) (by decide +kernel))
set_option maxRecDepth 20000 in
theorem zi_ok39 : zi_okM zi_m39 = true := zi_okM_of (show zi_i39.all _ = true from zi_ok39_0) (zi_okW0 rfl (by decide) (zt_3 (k := 123) rfl rfl) (zt_1 (k := 3) rfl rfl) (by decide) (zt_3 (k := 121) rfl rfl) (zt_3 (k := 122) rfl rfl) (by decide +kernel))
set_option maxRecDepth 20000 in
theorem zi_ok40 : zi_okM zi_m40 = true := zi_okM_of (show zi_i40.all _ = true from zi_all_app zi_ok40_0 (zi_all_app zi_ok40_1 (zi_all_app zi_ok40_2 (zi_ok40_3)))) (zi_okW0 rfl (by decide) (zt_1 (k := 45) rfl rfl) (zt_1 (k := 3) rfl rfl) (by decide) (zt_1 (k := 43) rfl rfl) (zt_1 (k := 44) rfl rfl) (by decide +kernel))
set_option maxRecDepth 20000 in
theorem zi_ok41 : zi_okM zi_m41 = true := zi_okM_of (show zi_i41.all _ = true from zi_ok41_0) (zi_okW0 rfl (by decide) (zt_3 (k := 50) rfl rfl) (zt_1 (k := 3) rfl rfl) (by decide) (zt_3 (k := 48) rfl rfl) (zt_3 (k := 49) rfl rfl) (by decide +kernel))
set_option maxRecDepth 20000 in
theorem zi_ok42 : zi_okM zi_m42 = true := zi_okM_of (show zi_i42.all _ = true from zi_ok42_0) (zi_okW0 rfl (by decide) (zt_3 (k := 58) rfl rfl) (zt_1 (k := 3) rfl rfl) (by decide) (zt_3 (k := 56) rfl rfl) (zt_3 (k := 57) rfl rfl) (by decide +kernel))
set_option maxRecDepth 20000 in
theorem zi_ok43 : zi_okM zi_m43 = true := zi_okM_of (show zi_i43.all _ = true from zi_ok43_0) (zi_okW0 rfl (by decide) (zt_3 (k := 54) rfl rfl) (zt_1 (k := 3) rfl rfl) (by decide) (zt_3 (k := 52) rfl rfl) (zt_3 (k := 53) rfl rfl) (by decide +kernel))
set_option maxRecDepth 20000 in
theorem zi_ok44 : zi_okM zi_m44 = true := zi_okM_of (show zi_i44.all _ = true from zi_ok44_0) (zi_okW0 rfl (by decide) (zt_3 (k := 82) rfl rfl) (zt_1 (k := 3) rfl rfl) (by decide) (zt_3 (k := 80) rfl rfl) (zt_3 (k := 81) rfl rfl) (by decide +kernel))
set_option maxRecDepth 20000 in
theorem zi_ok45 : zi_okM zi_m45 = true := zi_okM_of (show zi_i45.all _ = true from zi_all_app zi_ok45_0 (zi_ok45_1)) (zi_okW0 rfl (by decide) (zt_3 (k := 74) rfl rfl) (zt_1 (k := 3) rfl rfl) (by decide) (zt_3 (k := 72) rfl rfl) (zt_3 (k := 73) rfl rfl) (by decide +kernel))
set_option maxRecDepth 20000 in
theorem zi_ok46 : zi_okM zi_m46 = true := zi_okM_of (show zi_i46.all _ = true from zi_all_app zi_ok46_0 (zi_ok46_1)) (zi_okW0 rfl (by decide) (zt_3 (k := 119) rfl rfl) (zt_1 (k := 3) rfl rfl) (by decide) (zt_3 (k := 117) rfl rfl) (zt_3 (k := 118) rfl rfl) (by decide +kernel))
set_option maxRecDepth 20000 in
theorem zi_ok47 : zi_okM zi_m47 = true := zi_okM_of (show zi_i47.all _ = true from zi_all_app zi_ok47_0 (zi_ok47_1)) (zi_okW0 rfl (by decide) (zt_3 (k := 107) rfl rfl) (zt_1 (k := 3) rfl rfl) (by decide) (zt_3 (k := 105) rfl rfl) (zt_3 (k := 106) rfl rfl) (by decide +kernel))
set_option maxRecDepth 20000 in
theorem zi_ok48 : zi_okM zi_m48 = true := zi_okM_of (show zi_i48.all _ = true from zi_all_app zi_ok48_0 (zi_all_app zi_ok48_1 (zi_ok48_2))) (zi_okW0 rfl (by decide) (zt_3 (k := 98) rfl rfl) (zt_1 (k := 3) rfl rfl) (by decide) (zt_3 (k := 96) rfl rfl) (zt_3 (k := 97) rfl rfl) (by decide +kernel))
set_option maxRecDepth 20000 in
theorem zi_ok49 : zi_okM zi_m49 = true := zi_okM_of (show zi_i49.all _ = true from zi_all_app zi_ok49_0 (zi_all_app zi_ok49_1 (zi_ok49_2))) (zi_okW0 rfl (by decide) (zt_3 (k := 94) rfl rfl) (zt_1 (k := 3) rfl rfl) (by decide) (zt_3 (k := 92) rfl rfl) (zt_3 (k := 93) rfl rfl) (by decide +kernel))
set_option maxRecDepth 20000 in
theorem zi_ok50 : zi_okM zi_m50 = true := zi_okM_of (show zi_i50.all _ = true from zi_all_app zi_ok50_0 (zi_ok50_1)) (zi_okW0 rfl (by decide) (zt_3 (k := 102) rfl rfl) (zt_1 (k := 3) rfl rfl) (by decide) (zt_3 (k := 100) rfl rfl) (zt_3 (k := 101) rfl rfl) (by decide +kernel))
set_option maxRecDepth 20000 in
theorem zi_ok51 : zi_okM zi_m51 = true := zi_okM_of (show zi_i51.all _ = true from zi_all_app zi_ok51_0 (zi_all_app zi_ok51_1 (zi_all_app zi_ok51_2 (zi_all_app zi_ok51_3 (zi_all_app zi_ok51_4 (zi_all_app zi_ok51_5 (zi_ok51_6))))))) (zi_okW0 rfl (by decide) (zt_3 (k := 127) rfl rfl) (zt_1 (k := 3) rfl rfl) (by decide) (zt_3 (k := 125) rfl rfl) (zt_3 (k := 126) rfl rfl) (by decide +kernel))
set_option maxRecDepth 20000 in
theorem zi_ok52 : zi_okM zi_m52 = true := zi_okM_of (show zi_i52.all _ = true from zi_all_app zi_ok52_0 (zi_all_app zi_ok52_1 (zi_all_app zi_ok52_2 (zi_all_app zi_ok52_3 (zi_all_app zi_ok52_4 (zi_ok52_5)))))) (zi_okW0 rfl (by decide) (zt_3 (k := 154) rfl rfl) (zt_1 (k := 3) rfl rfl) (by decide) (zt_3 (k := 152) rfl rfl) (zt_3 (k := 153) rfl rfl) (by decide +kernel))
set_option maxRecDepth 20000 in
theorem zi_ok53 : zi_okM zi_m53 = true := zi_okM_of (show zi_i53.all _ = true from zi_all_app zi_ok53_0 (zi_ok53_1)) (zi_okW0 rfl (by decide) (zt_3 (k := 181) rfl rfl) (zt_1 (k := 3) rfl rfl) (by decide) (zt_3 (k := 179) rfl rfl) (zt_3 (k := 180) rfl rfl) (by decide +kernel))
set_option maxRecDepth 20000 in
theorem zi_ok54 : zi_okM zi_m54 = true := zi_okM_of (show zi_i54.all _ = true from zi_all_app zi_ok54_0 (zi_all_app zi_ok54_1 (zi_all_app zi_ok54_2 (zi_all_app zi_ok54_3 (zi_all_app zi_ok54_4 (zi_all_app zi_ok54_5 (zi_all_app zi_ok54_6 (zi_all_app zi_ok54_7 (zi_all_app zi_ok54_8 (zi_ok54_9)))))))))) (zi_okW0 rfl (by decide) (zt_3 (k := 135) rfl rfl) (zt_1 (k := 3) rfl rfl) (by decide) (zt_3 (k := 133) rfl rfl) (zt_3 (k := 134) rfl rfl) (by decide +kernel))
set_option maxRecDepth 20000 in
theorem zi_ok55 : zi_okM zi_m55 = true := zi_okM_of (show zi_i55.all _ = true from zi_all_app zi_ok55_0 (zi_ok55_1)) (zi_okW0 rfl (by decide) (zt_3 (k := 46) rfl rfl) (zt_1 (k := 3) rfl rfl) (by decide) (zt_3 (k := 44) rfl rfl) (zt_3 (k := 45) rfl rfl) (by decide +kernel))
set_option maxRecDepth 20000 in
theorem zi_ok56 : zi_okM zi_m56 = true := zi_okM_of (show zi_i56.all _ = true from zi_all_app zi_ok56_0 (zi_all_app zi_ok56_1 (zi_all_app zi_ok56_2 (zi_all_app zi_ok56_3 (zi_ok56_4))))) (zi_okW0 rfl (by decide) (zt_3 (k := 26) rfl rfl) (zt_1 (k := 3) rfl rfl) (by decide) (zt_3 (k := 24) rfl rfl) (zt_3 (k := 25) rfl rfl) (by decide +kernel))
set_option maxRecDepth 20000 in
theorem zi_ok57 : zi_okM zi_m57 = true := zi_okM_of (show zi_i57.all _ = true from zi_all_app zi_ok57_0 (zi_ok57_1)) (zi_okW0 rfl (by decide) (zt_4 (k := 235) rfl rfl) (zt_1 (k := 3) rfl rfl) (by decide) (zt_4 (k := 233) rfl rfl) (zt_4 (k := 234) rfl rfl) (by decide +kernel))
set_option maxRecDepth 20000 in
theorem zi_ok58 : zi_okM zi_m58 = true := zi_okM_of (show zi_i58.all _ = true from zi_all_app zi_ok58_0 (zi_all_app zi_ok58_1 (zi_ok58_2))) (zi_okW0 rfl (by decide) (zt_3 (k := 199) rfl rfl) (zt_1 (k := 3) rfl rfl) (by decide) (zt_3 (k := 197) rfl rfl) (zt_3 (k := 198) rfl rfl) (by decide +kernel))
set_option maxRecDepth 20000 in
theorem zi_ok59 : zi_okM zi_m59 = true := zi_okM_of (show zi_i59.all _ = true from zi_all_app zi_ok59_0 (zi_ok59_1)) (zi_okW0 rfl (by decide) (zt_3 (k := 208) rfl rfl) (zt_1 (k := 3) rfl rfl) (by decide) (zt_3 (k := 206) rfl rfl) (zt_3 (k := 207) rfl rfl) (by decide +kernel))
set_option maxRecDepth 20000 in
theorem zi_ok60 : zi_okM zi_m60 = true := zi_okM_of (show zi_i60.all _ = true from zi_all_app zi_ok60_0 (zi_ok60_1)) (zi_okW0 rfl (by decide) (zt_4 (k := 231) rfl rfl) (zt_1 (k := 3) rfl rfl) (by decide) (zt_4 (k := 229) rfl rfl) (zt_4 (k := 230) rfl rfl) (by decide +kernel))
set_option maxRecDepth 20000 in
theorem zi_ok61 : zi_okM zi_m61 = true := zi_okM_of (show zi_i61.all _ = true from zi_all_app zi_ok61_0 (zi_all_app zi_ok61_1 (zi_ok61_2))) (zi_okW0 rfl (by decide) (zt_4 (k := 239) rfl rfl) (zt_1 (k := 3) rfl rfl) (by decide) (zt_4 (k := 237) rfl rfl) (zt_4 (k := 238) rfl rfl) (by decide +kernel))
set_option maxRecDepth 20000 in
theorem zi_ok62 : zi_okM zi_m62 = true := zi_okM_of (show zi_i62.all _ = true from zi_all_app zi_ok62_0 (zi_ok62_1)) (zi_okW0 rfl (by decide) (zt_4 (k := 32) rfl rfl) (zt_1 (k := 3) rfl rfl) (by decide) (zt_4 (k := 30) rfl rfl) (zt_4 (k := 31) rfl rfl) (by decide +kernel))
set_option maxRecDepth 20000 in
theorem zi_ok63 : zi_okM zi_m63 = true := zi_okM_of (show zi_i63.all _ = true from zi_all_app zi_ok63_0 (zi_ok63_1)) (zi_okW0 rfl (by decide) (zt_4 (k := 166) rfl rfl) (zt_1 (k := 3) rfl rfl) (by decide) (zt_4 (k := 164) rfl rfl) (zt_4 (k := 165) rfl rfl) (by decide +kernel))
set_option maxRecDepth 20000 in
theorem zi_ok64 : zi_okM zi_m64 = true := zi_okM_of (show zi_i64.all _ = true from zi_all_app zi_ok64_0 (zi_all_app zi_ok64_1 (zi_ok64_2))) (zi_okW0 rfl (by decide) (zt_4 (k := 128) rfl rfl) (zt_1 (k := 3) rfl rfl) (by decide) (zt_4 (k := 126) rfl rfl) (zt_4 (k := 127) rfl rfl) (by decide +kernel))
set_option maxRecDepth 20000 in
theorem zi_ok65 : zi_okM zi_m65 = true := zi_okM_of (show zi_i65.all _ = true from zi_all_app zi_ok65_0 (zi_all_app zi_ok65_1 (zi_all_app zi_ok65_2 (zi_ok65_3)))) (zi_okW0 rfl (by decide) (zt_4 (k := 132) rfl rfl) (zt_1 (k := 3) rfl rfl) (by decide) (zt_4 (k := 130) rfl rfl) (zt_4 (k := 131) rfl rfl) (by decide +kernel))
set_option maxRecDepth 20000 in
theorem zi_ok66 : zi_okM zi_m66 = true := zi_okM_of (show zi_i66.all _ = true from zi_all_app zi_ok66_0 (zi_all_app zi_ok66_1 (zi_ok66_2))) (zi_okW0 rfl (by decide) (zt_4 (k := 136) rfl rfl) (zt_1 (k := 3) rfl rfl) (by decide) (zt_4 (k := 134) rfl rfl) (zt_4 (k := 135) rfl rfl) (by decide +kernel))
set_option maxRecDepth 20000 in
theorem zi_ok67 : zi_okM zi_m67 = true := zi_okM_of (show zi_i67.all _ = true from zi_all_app zi_ok67_0 (zi_all_app zi_ok67_1 (zi_ok67_2))) (zi_okW0 rfl (by decide) (zt_4 (k := 142) rfl rfl) (zt_1 (k := 3) rfl rfl) (by decide) (zt_4 (k := 140) rfl rfl) (zt_4 (k := 141) rfl rfl) (by decide +kernel))
set_option maxRecDepth 20000 in
theorem zi_ok68 : zi_okM zi_m68 = true := zi_okM_of (show zi_i68.all _ = true from zi_all_app zi_ok68_0 (zi_ok68_1)) (zi_okW0 rfl (by decide) (zt_4 (k := 151) rfl rfl) (zt_1 (k := 3) rfl rfl) (by decide) (zt_4 (k := 149) rfl rfl) (zt_4 (k := 150) rfl rfl) (by decide +kernel))
set_option maxRecDepth 20000 in
theorem zi_ok69 : zi_okM zi_m69 = true := zi_okM_of (show zi_i69.all _ = true from zi_all_app zi_ok69_0 (zi_all_app zi_ok69_1 (zi_all_app zi_ok69_2 (zi_ok69_3)))) (zi_okW0 rfl (by decide) (zt_4 (k := 156) rfl rfl) (zt_1 (k := 3) rfl rfl) (by decide) (zt_4 (k := 155) rfl rfl) (zt_0 (k := 26) rfl) (by decide +kernel))
set_option maxRecDepth 20000 in
theorem zi_ok70 : zi_okM zi_m70 = true := zi_okM_of (show zi_i70.all _ = true from zi_all_app zi_ok70_0 (zi_ok70_1)) (zi_okW2 rfl (by decide) (by decide) (zt_1 (k := 177) rfl rfl) (zt_1 (k := 6) rfl rfl) (by decide) (zt_1 (k := 176) rfl rfl) (by decide +kernel) rfl)
set_option maxRecDepth 20000 in
theorem zi_ok71 : zi_okM zi_m71 = true := zi_okM_of (show zi_i71.all _ = true from zi_all_app zi_ok71_0 (zi_all_app zi_ok71_1 (zi_all_app zi_ok71_2 (zi_all_app zi_ok71_3 (zi_ok71_4))))) (zi_okW0 rfl (by decide) (zt_4 (k := 46) rfl rfl) (zt_1 (k := 6) rfl rfl) (by decide) (zt_4 (k := 44) rfl rfl) (zt_4 (k := 45) rfl rfl) (by decide +kernel))
set_option maxRecDepth 20000 in
theorem zi_ok72 : zi_okM zi_m72 = true := zi_okM_of (show zi_i72.all _ = true from zi_all_app zi_ok72_0 (zi_all_app zi_ok72_1 (zi_all_app zi_ok72_2 (zi_all_app zi_ok72_3 (zi_all_app zi_ok72_4 (zi_all_app zi_ok72_5 (zi_ok72_6))))))) (zi_okW1 rfl (by decide) (by decide) (zt_4 (k := 70) rfl rfl) (zt_1 (k := 6) rfl rfl) (by decide) (zt_4 (k := 69) rfl rfl) (by decide +kernel))
set_option maxRecDepth 20000 in
theorem zi_ok73 : zi_okM zi_m73 = true := zi_okM_of (show zi_i73.all _ = true from zi_all_app zi_ok73_0 (zi_all_app zi_ok73_1 (zi_all_app zi_ok73_2 (zi_all_app zi_ok73_3 (zi_all_app zi_ok73_4 (zi_ok73_5)))))) (zi_okW0 rfl (by decide) (zt_4 (k := 81) rfl rfl) (zt_1 (k := 6) rfl rfl) (by decide) (zt_4 (k := 80) rfl rfl) (zt_0 (k := 25) rfl) (by decide +kernel))
set_option maxRecDepth 20000 in
theorem zi_ok74 : zi_okM zi_m74 = true := zi_okM_of (show zi_i74.all _ = true from zi_all_app zi_ok74_0 (zi_all_app zi_ok74_1 (zi_ok74_2))) (zi_okW2 rfl (by decide) (by decide) (zt_1 (k := 30) rfl rfl) (zt_1 (k := 2) rfl rfl) (by decide) (zt_1 (k := 29) rfl rfl) (by decide +kernel) rfl)
set_option maxRecDepth 20000 in
theorem zi_ok75 : zi_okM zi_m75 = true := zi_okM_of (show zi_i75.all _ = true from zi_all_app zi_ok75_0 (zi_ok75_1)) (zi_okW0 rfl (by decide) (zt_4 (k := 57) rfl rfl) (zt_1 (k := 2) rfl rfl) (by decide) (zt_4 (k := 55) rfl rfl) (zt_4 (k := 56) rfl rfl) (by decide +kernel))
set_option maxRecDepth 20000 in
theorem zi_ok76 : zi_okM zi_m76 = true := zi_okM_of (show zi_i76.all _ = true from zi_all_app zi_ok76_0 (zi_all_app zi_ok76_1 (zi_all_app zi_ok76_2 (zi_all_app zi_ok76_3 (zi_all_app zi_ok76_4 (zi_ok76_5)))))) (zi_okW0 rfl (by decide) (zt_3 (k := 5) rfl rfl) (zt_1 (k := 2) rfl rfl) (by decide) (zt_3 (k := 3) rfl rfl) (zt_3 (k := 4) rfl rfl) (by decide +kernel))
set_option maxRecDepth 20000 in
theorem zi_ok77 : zi_okM zi_m77 = true := zi_okM_of (show zi_i77.all _ = true from zi_all_app zi_ok77_0 (zi_ok77_1)) (zi_okW0 rfl (by decide) (zt_3 (k := 14) rfl rfl) (zt_1 (k := 2) rfl rfl) (by decide) (zt_3 (k := 12) rfl rfl) (zt_3 (k := 13) rfl rfl) (by decide +kernel))
set_option maxRecDepth 20000 in
theorem zi_ok78 : zi_okM zi_m78 = true := zi_okM_of (show zi_i78.all _ = true from zi_all_app zi_ok78_0 (zi_all_app zi_ok78_1 (zi_ok78_2))) (zi_okW0 rfl (by decide) (zt_3 (k := 10) rfl rfl) (zt_1 (k := 2) rfl rfl) (by decide) (zt_3 (k := 8) rfl rfl) (zt_3 (k := 9) rfl rfl) (by decide +kernel))
set_option maxRecDepth 20000 in
theorem zi_ok79 : zi_okM zi_m79 = true := zi_okM_of (show zi_i79.all _ = true from zi_all_app zi_ok79_0 (zi_ok79_1)) (zi_okW0 rfl (by decide) (zt_4 (k := 20) rfl rfl) (zt_1 (k := 2) rfl rfl) (by decide) (zt_4 (k := 18) rfl rfl) (zt_4 (k := 19) rfl rfl) (by decide +kernel))
set_option maxRecDepth 20000 in
theorem zi_ok80 : zi_okM zi_m80 = true := zi_okM_of (show zi_i80.all _ = true from zi_all_app zi_ok80_0 (zi_all_app zi_ok80_1 (zi_all_app zi_ok80_2 (zi_all_app zi_ok80_3 (zi_all_app zi_ok80_4 (zi_all_app zi_ok80_5 (zi_ok80_6))))))) (zi_okW0 rfl (by decide) (zt_3 (k := 30) rfl rfl) (zt_1 (k := 2) rfl rfl) (by decide) (zt_3 (k := 28) rfl rfl) (zt_3 (k := 29) rfl rfl) (by decide +kernel))
set_option maxRecDepth 20000 in
theorem zi_ok81 : zi_okM zi_m81 = true := zi_okM_of (show zi_i81.all _ = true from zi_all_app zi_ok81_0 (zi_ok81_1)) (zi_okW0 rfl (by decide) (zt_3 (k := 185) rfl rfl) (zt_1 (k := 2) rfl rfl) (by decide) (zt_3 (k := 184) rfl rfl) (zt_0 (k := 24) rfl) (by decide +kernel))
set_option maxRecDepth 20000 in
theorem zi_ok82 : zi_okM zi_m82 = true := zi_okM_of (show zi_i82.all _ = true from zi_all_app zi_ok82_0 (zi_ok82_1)) (zi_okW0 rfl (by decide) (zt_3 (k := 22) rfl rfl) (zt_1 (k := 2) rfl rfl) (by decide) (zt_3 (k := 21) rfl rfl) (zt_0 (k := 11) rfl) (by decide +kernel))
set_option maxRecDepth 20000 in
theorem zi_ok83 : zi_okM zi_m83 = true := zi_okM_of (show zi_i83.all _ = true from zi_all_app zi_ok83_0 (zi_ok83_1)) (zi_okW0 rfl (by decide) (zt_3 (k := 78) rfl rfl) (zt_1 (k := 2) rfl rfl) (by decide) (zt_3 (k := 77) rfl rfl) (zt_0 (k := 14) rfl) (by decide +kernel))
set_option maxRecDepth 20000 in
theorem zi_ok84 : zi_okM zi_m84 = true := zi_okM_of (show zi_i84.all _ = true from zi_all_app zi_ok84_0 (zi_ok84_1)) (zi_okW0 rfl (by decide) (zt_3 (k := 90) rfl rfl) (zt_1 (k := 2) rfl rfl) (by decide) (zt_3 (k := 89) rfl rfl) (zt_0 (k := 15) rfl) (by decide +kernel))
set_option maxRecDepth 20000 in
theorem zi_ok85 : zi_okM zi_m85 = true := zi_okM_of (show zi_i85.all _ = true from zi_all_app zi_ok85_0 (zi_all_app zi_ok85_1 (zi_all_app zi_ok85_2 (zi_all_app zi_ok85_3 (zi_ok85_4))))) (zi_okW0 rfl (by decide) (zt_3 (k := 70) rfl rfl) (zt_1 (k := 2) rfl rfl) (by decide) (zt_3 (k := 69) rfl rfl) (zt_0 (k := 13) rfl) (by decide +kernel))
set_option maxRecDepth 20000 in
theorem zi_ok86 : zi_okM zi_m86 = true := zi_okM_of (show zi_i86.all _ = true from zi_all_app zi_ok86_0 (zi_all_app zi_ok86_1 (zi_all_app zi_ok86_2 (zi_all_app zi_ok86_3 (zi_ok86_4))))) (zi_okW0 rfl (by decide) (zt_3 (k := 115) rfl rfl) (zt_1 (k := 2) rfl rfl) (by decide) (zt_3 (k := 114) rfl rfl) (zt_0 (k := 16) rfl) (by decide +kernel))
set_option maxRecDepth 20000 in
theorem zi_ok87 : zi_okM zi_m87 = true := zi_okM_of (show zi_i87.all _ = true from zi_all_app zi_ok87_0 (zi_all_app zi_ok87_1 (zi_ok87_2))) (zi_okW0 rfl (by decide) (zt_3 (k := 131) rfl rfl) (zt_1 (k := 2) rfl rfl) (by decide) (zt_3 (k := 130) rfl rfl) (zt_0 (k := 17) rfl) (by decide +kernel))
set_option maxRecDepth 20000 in
theorem zi_ok88 : zi_okM zi_m88 = true := zi_okM_of (show zi_i88.all _ = true from zi_all_app zi_ok88_0 (zi_ok88_1)) (zi_okW0 rfl (by decide) (zt_3 (k := 142) rfl rfl) (zt_1 (k := 2) rfl rfl) (by decide) (zt_3 (k := 141) rfl rfl) (zt_0 (k := 18) rfl) (by decide +kernel))
set_option maxRecDepth 20000 in
theorem zi_ok89 : zi_okM zi_m89 = true := zi_okM_of (show zi_i89.all _ = true from zi_all_app zi_ok89_0 (zi_all_app zi_ok89_1 (zi_all_app zi_ok89_2 (zi_all_app zi_ok89_3 (zi_all_app zi_ok89_4 (zi_all_app zi_ok89_5 (zi_ok89_6))))))) (zi_okW0 rfl (by decide) (zt_3 (k := 150) rfl rfl) (zt_1 (k := 2) rfl rfl) (by decide) (zt_3 (k := 149) rfl rfl) (zt_0 (k := 19) rfl) (by decide +kernel))
set_option maxRecDepth 20000 in
theorem zi_ok90 : zi_okM zi_m90 = true := zi_okM_of (show zi_i90.all _ = true from zi_all_app zi_ok90_0 (zi_all_app zi_ok90_1 (zi_all_app zi_ok90_2 (zi_all_app zi_ok90_3 (zi_all_app zi_ok90_4 (zi_ok90_5)))))) (zi_okW0 rfl (by decide) (zt_3 (k := 159) rfl rfl) (zt_1 (k := 2) rfl rfl) (by decide) (zt_3 (k := 158) rfl rfl) (zt_0 (k := 20) rfl) (by decide +kernel))
set_option maxRecDepth 20000 in
theorem zi_ok91 : zi_okM zi_m91 = true := zi_okM_of (show zi_i91.all _ = true from zi_all_app zi_ok91_0 (zi_all_app zi_ok91_1 (zi_ok91_2))) (zi_okW0 rfl (by decide) (zt_3 (k := 167) rfl rfl) (zt_1 (k := 2) rfl rfl) (by decide) (zt_3 (k := 166) rfl rfl) (zt_0 (k := 21) rfl) (by decide +kernel))
set_option maxRecDepth 20000 in
theorem zi_ok92 : zi_okM zi_m92 = true := zi_okM_of (show zi_i92.all _ = true from zi_all_app zi_ok92_0 (zi_all_app zi_ok92_1 (zi_all_app zi_ok92_2 (zi_all_app zi_ok92_3 (zi_all_app zi_ok92_4 (zi_all_app zi_ok92_5 (zi_ok92_6))))))) (zi_okW0 rfl (by decide) (zt_3 (k := 177) rfl rfl) (zt_1 (k := 2) rfl rfl) (by decide) (zt_3 (k := 176) rfl rfl) (zt_0 (k := 23) rfl) (by decide +kernel))
set_option maxRecDepth 20000 in
theorem zi_ok93 : zi_okM zi_m93 = true := zi_okM_of (show zi_i93.all _ = true from zi_all_app zi_ok93_0 (zi_all_app zi_ok93_1 (zi_all_app zi_ok93_2 (zi_all_app zi_ok93_3 (zi_ok93_4))))) (zi_okW0 rfl (by decide) (zt_3 (k := 172) rfl rfl) (zt_1 (k := 2) rfl rfl) (by decide) (zt_3 (k := 171) rfl rfl) (zt_0 (k := 22) rfl) (by decide +kernel))
set_option maxRecDepth 20000 in
theorem zi_ok94 : zi_okM zi_m94 = true := zi_okM_of (show zi_i94.all _ = true from zi_all_app zi_ok94_0 (zi_all_app zi_ok94_1 (zi_ok94_2))) (zi_okW0 rfl (by decide) (zt_3 (k := 34) rfl rfl) (zt_1 (k := 2) rfl rfl) (by decide) (zt_3 (k := 32) rfl rfl) (zt_3 (k := 33) rfl rfl) (by decide +kernel))
set_option maxRecDepth 20000 in
theorem zi_ok95 : zi_okM zi_m95 = true := zi_okM_of (show zi_i95.all _ = true from zi_all_app zi_ok95_0 (zi_all_app zi_ok95_1 (zi_all_app zi_ok95_2 (zi_all_app zi_ok95_3 (zi_ok95_4))))) (zi_okW0 rfl (by decide) (zt_3 (k := 42) rfl rfl) (zt_1 (k := 2) rfl rfl) (by decide) (zt_3 (k := 41) rfl rfl) (zt_0 (k := 12) rfl) (by decide +kernel))
set_option maxRecDepth 20000 in
theorem zi_ok96 : zi_okM zi_m96 = true := zi_okM_of (show zi_i96.all _ = true from zi_all_app zi_ok96_0 (zi_ok96_1)) (zi_okW0 rfl (by decide) (zt_3 (k := 213) rfl rfl) (zt_1 (k := 2) rfl rfl) (by decide) (zt_3 (k := 211) rfl rfl) (zt_3 (k := 212) rfl rfl) (by decide +kernel))
set_option maxRecDepth 20000 in
theorem zi_ok97 : zi_okM zi_m97 = true := zi_okM_of (show zi_i97.all _ = true from zi_all_app zi_ok97_0 (zi_ok97_1)) (zi_okW0 rfl (by decide) (zt_3 (k := 62) rfl rfl) (zt_1 (k := 2) rfl rfl) (by decide) (zt_3 (k := 60) rfl rfl) (zt_3 (k := 61) rfl rfl) (by decide +kernel))
set_option maxRecDepth 20000 in
theorem zi_ok98 : zi_okM zi_m98 = true := zi_okM_of (show zi_i98.all _ = true from zi_all_app zi_ok98_0 (zi_ok98_1)) (zi_okW0 rfl (by decide) (zt_3 (k := 204) rfl rfl) (zt_1 (k := 2) rfl rfl) (by decide) (zt_3 (k := 202) rfl rfl) (zt_3 (k := 203) rfl rfl) (by decide +kernel))
set_option maxRecDepth 20000 in
theorem zi_ok99 : zi_okM zi_m99 = true := zi_okM_of (show zi_i99.all _ = true from zi_all_app zi_ok99_0 (zi_all_app zi_ok99_1 (zi_ok99_2))) (zi_okW0 rfl (by decide) (zt_4 (k := 147) rfl rfl) (zt_1 (k := 2) rfl rfl) (by decide) (zt_4 (k := 145) rfl rfl) (zt_4 (k := 146) rfl rfl) (by decide +kernel))
set_option maxRecDepth 20000 in
theorem zi_ok100 : zi_okM zi_m100 = true := zi_okM_of (show zi_i100.all _ = true from zi_all_app zi_ok100_0 (zi_ok100_1)) (zi_okW0 rfl (by decide) (zt_4 (k := 53) rfl rfl) (zt_1 (k := 2) rfl rfl) (by decide) (zt_4 (k := 51) rfl rfl) (zt_4 (k := 52) rfl rfl) (by decide +kernel))
set_option maxRecDepth 20000 in
theorem zi_ok101 : zi_okM zi_m101 = true := zi_okM_of (show zi_i101.all _ = true from zi_all_app zi_ok101_0 (zi_ok101_1)) (zi_okW0 rfl (by decide) (zt_4 (k := 85) rfl rfl) (zt_1 (k := 2) rfl rfl) (by decide) (zt_4 (k := 83) rfl rfl) (zt_4 (k := 84) rfl rfl) (by decide +kernel))
set_option maxRecDepth 20000 in
theorem zi_ok102 : zi_okM zi_m102 = true := zi_okM_of (show zi_i102.all _ = true from zi_all_app zi_ok102_0 (zi_ok102_1)) (zi_okW0 rfl (by decide) (zt_4 (k := 90) rfl rfl) (zt_1 (k := 2) rfl rfl) (by decide) (zt_4 (k := 88) rfl rfl) (zt_4 (k := 89) rfl rfl) (by decide +kernel))
set_option maxRecDepth 20000 in
theorem zi_ok103 : zi_okM zi_m103 = true := zi_okM_of (show zi_i103.all _ = true from zi_all_app zi_ok103_0 (zi_ok103_1)) (zi_okW0 rfl (by decide) (zt_4 (k := 98) rfl rfl) (zt_1 (k := 2) rfl rfl) (by decide) (zt_4 (k := 96) rfl rfl) (zt_4 (k := 97) rfl rfl) (by decide +kernel))
set_option maxRecDepth 20000 in
theorem zi_ok104 : zi_okM zi_m104 = true := zi_okM_of (show zi_i104.all _ = true from zi_all_app zi_ok104_0 (zi_all_app zi_ok104_1 (zi_all_app zi_ok104_2 (zi_all_app zi_ok104_3 (zi_ok104_4))))) (zi_okW2 rfl (by decide) (by decide) (zt_1 (k := 22) rfl rfl) (zt_1 (k := 1) rfl rfl) (by decide) (zt_1 (k := 21) rfl rfl) (by decide +kernel) rfl)
set_option maxRecDepth 20000 in
theorem zi_ok105 : zi_okM zi_m105 = true := zi_okM_of (show zi_i105.all _ = true from zi_all_app zi_ok105_0 (zi_ok105_1)) (zi_okW0 rfl (by decide) (zt_2 (k := 111) rfl rfl) (zt_1 (k := 1) rfl rfl) (by decide) (zt_2 (k := 109) rfl rfl) (zt_2 (k := 110) rfl rfl) (by decide +kernel))
set_option maxRecDepth 20000 in
theorem zi_ok106 : zi_okM zi_m106 = true := zi_okM_of (show zi_i106.all _ = true from zi_all_app zi_ok106_0 (zi_ok106_1)) (zi_okW0 rfl (by decide) (zt_2 (k := 119) rfl rfl) (zt_1 (k := 1) rfl rfl) (by decide) (zt_2 (k := 117) rfl rfl) (zt_2 (k := 118) rfl rfl) (by decide +kernel))
set_option maxRecDepth 20000 in
theorem zi_ok107 : zi_okM zi_m107 = true := zi_okM_of (show zi_i107.all _ = true from zi_all_app zi_ok107_0 (zi_all_app zi_ok107_1 (zi_all_app zi_ok107_2 (zi_ok107_3)))) (zi_okW0 rfl (by decide) (zt_2 (k := 123) rfl rfl) (zt_1 (k := 1) rfl rfl) (by decide) (zt_2 (k := 121) rfl rfl) (zt_2 (k := 122) rfl rfl) (by decide +kernel))
set_option maxRecDepth 20000 in
theorem zi_ok108 : zi_okM zi_m108 = true := zi_okM_of (show zi_i108.all _ = true from zi_ok108_0) (zi_okW0 rfl (by decide) (zt_3 (k := 190) rfl rfl) (zt_1 (k := 1) rfl rfl) (by decide) (zt_3 (k := 188) rfl rfl) (zt_3 (k := 189) rfl rfl) (by decide +kernel))
set_option maxRecDepth 20000 in
theorem zi_ok109 : zi_okM zi_m109 = true := zi_okM_of (show zi_i109.all _ = true from zi_all_app zi_ok109_0 (zi_all_app zi_ok109_1 (zi_all_app zi_ok109_2 (zi_ok109_3)))) (zi_okW0 rfl (by decide) (zt_3 (k := 194) rfl rfl) (zt_1 (k := 1) rfl rfl) (by decide) (zt_3 (k := 192) rfl rfl) (zt_3 (k := 193) rfl rfl) (by decide +kernel))
set_option maxRecDepth 20000 in
theorem zi_ok110 : zi_okM zi_m110 = true := zi_okM_of (show zi_i110.all _ = true from zi_all_app zi_ok110_0 (zi_all_app zi_ok110_1 (zi_all_app zi_ok110_2 (zi_ok110_3)))) (zi_okW0 rfl (by decide) (zt_3 (k := 217) rfl rfl) (zt_1 (k := 1) rfl rfl) (by decide) (zt_3 (k := 215) rfl rfl) (zt_3 (k := 216) rfl rfl) (by decide +kernel))
set_option maxRecDepth 20000 in
theorem zi_ok111 : zi_okM zi_m111 = true := zi_okM_of (show zi_i111.all _ = true from zi_all_app zi_ok111_0 (zi_all_app zi_ok111_1 (zi_ok111_2))) (zi_okW0 rfl (by decide) (zt_3 (k := 223) rfl rfl) (zt_1 (k := 1) rfl rfl) (by decide) (zt_3 (k := 221) rfl rfl) (zt_3 (k := 222) rfl rfl) (by decide +kernel))
set_option maxRecDepth 20000 in
theorem zi_ok112 : zi_okM zi_m112 = true := zi_okM_of (show zi_i112.all _ = true from zi_all_app zi_ok112_0 (zi_all_app zi_ok112_1 (zi_ok112_2))) (zi_okW0 rfl (by decide) (zt_3 (k := 229) rfl rfl) (zt_1 (k := 1) rfl rfl) (by decide) (zt_3 (k := 227) rfl rfl) (zt_3 (k := 228) rfl rfl) (by decide +kernel))
set_option maxRecDepth 20000 in
theorem zi_ok113 : zi_okM zi_m113 = true := zi_okM_of (show zi_i113.all _ = true from zi_all_app zi_ok113_0 (zi_ok113_1)) (zi_okW0 rfl (by decide) (zt_3 (k := 238) rfl rfl) (zt_1 (k := 1) rfl rfl) (by decide) (zt_3 (k := 236) rfl rfl) (zt_3 (k := 237) rfl rfl) (by decide +kernel))
set_option maxRecDepth 20000 in
theorem zi_ok114 : zi_okM zi_m114 = true := zi_okM_of (show zi_i114.all _ = true from zi_all_app zi_ok114_0 (zi_all_app zi_ok114_1 (zi_ok114_2))) (zi_okW0 rfl (by decide) (zt_4 (k := 6) rfl rfl) (zt_1 (k := 1) rfl rfl) (by decide) (zt_4 (k := 4) rfl rfl) (zt_4 (k := 5) rfl rfl) (by decide +kernel))
set_option maxRecDepth 20000 in
theorem zi_ok115 : zi_okM zi_m115 = true := zi_okM_of (show zi_i115.all _ = true from zi_ok115_0) (zi_okW0 rfl (by decide) (zt_4 (k := 11) rfl rfl) (zt_1 (k := 1) rfl rfl) (by decide) (zt_4 (k := 9) rfl rfl) (zt_4 (k := 10) rfl rfl) (by decide +kernel))
set_option maxRecDepth 20000 in
theorem zi_ok116 : zi_okM zi_m116 = true := zi_okM_of (show zi_i116.all _ = true from zi_all_app zi_ok116_0 (zi_ok116_1)) (zi_okW0 rfl (by decide) (zt_4 (k := 16) rfl rfl) (zt_1 (k := 1) rfl rfl) (by decide) (zt_4 (k := 14) rfl rfl) (zt_4 (k := 15) rfl rfl) (by decide +kernel))
set_option maxRecDepth 20000 in
theorem zi_ok117 : zi_okM zi_m117 = true := zi_okM_of (show zi_i117.all _ = true from zi_all_app zi_ok117_0 (zi_ok117_1)) (zi_okW0 rfl (by decide) (zt_4 (k := 24) rfl rfl) (zt_1 (k := 1) rfl rfl) (by decide) (zt_4 (k := 22) rfl rfl) (zt_4 (k := 23) rfl rfl) (by decide +kernel))
set_option maxRecDepth 20000 in
theorem zi_ok118 : zi_okM zi_m118 = true := zi_okM_of (show zi_i118.all _ = true from zi_all_app zi_ok118_0 (zi_all_app zi_ok118_1 (zi_ok118_2))) (zi_okW0 rfl (by decide) (zt_4 (k := 28) rfl rfl) (zt_1 (k := 1) rfl rfl) (by decide) (zt_4 (k := 26) rfl rfl) (zt_4 (k := 27) rfl rfl) (by decide +kernel))
set_option maxRecDepth 20000 in
theorem zi_ok119 : zi_okM zi_m119 = true := zi_okM_of (show zi_i119.all _ = true from zi_all_app zi_ok119_0 (zi_all_app zi_ok119_1 (zi_all_app zi_ok119_2 (zi_ok119_3)))) (zi_okW0 rfl (by decide) (zt_4 (k := 39) rfl rfl) (zt_1 (k := 1) rfl rfl) (by decide) (zt_4 (k := 37) rfl rfl) (zt_4 (k := 38) rfl rfl) (by decide +kernel))
set_option maxRecDepth 20000 in
theorem zi_ok120 : zi_okM zi_m120 = true := zi_okM_of (show zi_i120.all _ = true from zi_all_app zi_ok120_0 (zi_ok120_1)) (zi_okW0 rfl (by decide) (zt_4 (k := 104) rfl rfl) (zt_1 (k := 1) rfl rfl) (by decide) (zt_4 (k := 102) rfl rfl) (zt_4 (k := 103) rfl rfl) (by decide +kernel))
set_option maxRecDepth 20000 in
theorem zi_ok121 : zi_okM zi_m121 = true := zi_okM_of (show zi_i121.all _ = true from zi_all_app zi_ok121_0 (zi_ok121_1)) (zi_okW0 rfl (by decide) (zt_4 (k := 111) rfl rfl) (zt_1 (k := 1) rfl rfl) (by decide) (zt_4 (k := 109) rfl rfl) (zt_4 (k := 110) rfl rfl) (by decide +kernel))
set_option maxRecDepth 20000 in
theorem zi_ok122 : zi_okM zi_m122 = true := zi_okM_of (show zi_i122.all _ = true from zi_all_app zi_ok122_0 (zi_all_app zi_ok122_1 (zi_all_app zi_ok122_2 (zi_ok122_3)))) (zi_okW0 rfl (by decide) (zt_4 (k := 115) rfl rfl) (zt_1 (k := 1) rfl rfl) (by decide) (zt_4 (k := 113) rfl rfl) (zt_4 (k := 114) rfl rfl) (by decide +kernel))
set_option maxRecDepth 20000 in
theorem zi_ok123 : zi_okM zi_m123 = true := zi_okM_of (show zi_i123.all _ = true from zi_all_app zi_ok123_0 (zi_all_app zi_ok123_1 (zi_all_app zi_ok123_2 (zi_ok123_3)))) (zi_okW0 rfl (by decide) (zt_4 (k := 124) rfl rfl) (zt_1 (k := 1) rfl rfl) (by decide) (zt_4 (k := 122) rfl rfl) (zt_4 (k := 123) rfl rfl) (by decide +kernel))
set_option maxRecDepth 20000 in
theorem zi_ok124 : zi_okM zi_m124 = true := zi_okM_of (show zi_i124.all _ = true from zi_ok124_0) (zi_okW0 rfl (by decide) (zt_4 (k := 162) rfl rfl) (zt_1 (k := 1) rfl rfl) (by decide) (zt_4 (k := 160) rfl rfl) (zt_4 (k := 161) rfl rfl) (by decide +kernel))
set_option maxRecDepth 20000 in
theorem zi_ok125 : zi_okM zi_m125 = true := zi_okM_of (show zi_i125.all _ = true from zi_all_app zi_ok125_0 (zi_all_app zi_ok125_1 (zi_ok125_2))) (zi_okW0 rfl (by decide) (zt_4 (k := 170) rfl rfl) (zt_1 (k := 1) rfl rfl) (by decide) (zt_4 (k := 168) rfl rfl) (zt_4 (k := 169) rfl rfl) (by decide +kernel))
set_option maxRecDepth 20000 in
theorem zi_ok126 : zi_okM zi_m126 = true := zi_okM_of (show zi_i126.all _ = true from zi_all_app zi_ok126_0 (zi_ok126_1)) (zi_okW0 rfl (by decide) (zt_4 (k := 178) rfl rfl) (zt_1 (k := 1) rfl rfl) (by decide) (zt_4 (k := 176) rfl rfl) (zt_4 (k := 177) rfl rfl) (by decide +kernel))
set_option maxRecDepth 20000 in
theorem zi_ok127 : zi_okM zi_m127 = true := zi_okM_of (show zi_i127.all _ = true from zi_all_app zi_ok127_0 (zi_ok127_1)) (zi_okW0 rfl (by decide) (zt_4 (k := 182) rfl rfl) (zt_1 (k := 1) rfl rfl) (by decide) (zt_4 (k := 180) rfl rfl) (zt_4 (k := 181) rfl rfl) (by decide +kernel))
set_option maxRecDepth 20000 in
theorem zi_ok128 : zi_okM zi_m128 = true := zi_okM_of (show zi_i128.all _ = true from zi_all_app zi_ok128_0 (zi_all_app zi_ok128_1 (zi_ok128_2))) (zi_okW0 rfl (by decide) (zt_4 (k := 198) rfl rfl) (zt_1 (k := 1) rfl rfl) (by decide) (zt_4 (k := 196) rfl rfl) (zt_4 (k := 197) rfl rfl) (by decide +kernel))
set_option maxRecDepth 20000 in
theorem zi_ok129 : zi_okM zi_m129 = true := zi_okM_of (show zi_i129.all _ = true from zi_all_app zi_ok129_0 (zi_all_app zi_ok129_1 (zi_all_app zi_ok129_2 (zi_all_app zi_ok129_3 (zi_all_app zi_ok129_4 (zi_all_app zi_ok129_5 (zi_ok129_6))))))) (zi_okW0 rfl (by decide) (zt_4 (k := 210) rfl rfl) (zt_1 (k := 1) rfl rfl) (by decide) (zt_4 (k := 208) rfl rfl) (zt_4 (k := 209) rfl rfl) (by decide +kernel))
set_option maxRecDepth 20000 in
theorem zi_ok130 : zi_okM zi_m130 = true := zi_okM_of (show zi_i130.all _ = true from zi_ok130_0) (zi_okW0 rfl (by decide) (zt_4 (k := 223) rfl rfl) (zt_1 (k := 1) rfl rfl) (by decide) (zt_4 (k := 221) rfl rfl) (zt_4 (k := 222) rfl rfl) (by decide +kernel))
set_option maxRecDepth 20000 in
theorem zi_ok131 : zi_okM zi_m131 = true := zi_okM_of (show zi_i131.all _ = true from zi_all_app zi_ok131_0 (zi_all_app zi_ok131_1 (zi_all_app zi_ok131_2 (zi_ok131_3)))) (zi_okW0 rfl (by decide) (zt_4 (k := 227) rfl rfl) (zt_1 (k := 1) rfl rfl) (by decide) (zt_4 (k := 225) rfl rfl) (zt_4 (k := 226) rfl rfl) (by decide +kernel))
set_option maxRecDepth 20000 in
theorem zi_ok132 : zi_okM zi_m132 = true := zi_okM_of (show zi_i132.all _ = true from zi_all_app zi_ok132_0 (zi_ok132_1)) (zi_okW0 rfl (by decide) (zt_4 (k := 218) rfl rfl) (zt_1 (k := 1) rfl rfl) (by decide) (zt_4 (k := 217) rfl rfl) (zt_0 (k := 27) rfl) (by decide +kernel))
set_option maxRecDepth 20000 in
theorem zi_ok133 : zi_okM zi_m133 = true := zi_okM_of (show zi_i133.all _ = true from zi_ok133_0) (zi_okW1 rfl (by decide) (by decide) (zt_3 (k := 1) rfl rfl) (zt_1 (k := 1) rfl rfl) (by decide) (zt_3 (k := 0) rfl rfl) (by decide +kernel))
set_option maxRecDepth 20000 in
theorem zi_ok134 : zi_okM zi_m134 = true := zi_okM_of (show zi_i134.all _ = true from zi_ok134_0) (zi_okW1 rfl (by decide) (by decide) (zt_4 (k := 1) rfl rfl) (zt_1 (k := 1) rfl rfl) (by decide) (zt_4 (k := 0) rfl rfl) (by decide +kernel))
set_option maxRecDepth 20000 in
theorem zi_ok135 : zi_okM zi_m135 = true := zi_okM_of (show zi_i135.all _ = true from zi_ok135_0) (zi_okW1 rfl (by decide) (by decide) (zt_4 (k := 42) rfl rfl) (zt_1 (k := 1) rfl rfl) (by decide) (zt_4 (k := 41) rfl rfl) (by decide +kernel))
set_option maxRecDepth 20000 in
theorem zi_ok136 : zi_okM zi_m136 = true := zi_okM_of (show zi_i136.all _ = true from zi_ok136_0) (zi_okW1 rfl (by decide) (by decide) (zt_4 (k := 107) rfl rfl) (zt_1 (k := 1) rfl rfl) (by decide) (zt_4 (k := 106) rfl rfl) (by decide +kernel))
set_option maxRecDepth 20000 in
theorem zi_ok137 : zi_okM zi_m137 = true := zi_okM_of (show zi_i137.all _ = true from zi_ok137_0) (zi_okW1 rfl (by decide) (by decide) (zt_4 (k := 173) rfl rfl) (zt_1 (k := 1) rfl rfl) (by decide) (zt_4 (k := 172) rfl rfl) (by decide +kernel))
set_option maxRecDepth 20000 in
theorem zi_ok138 : zi_okM zi_m138 = true := zi_okM_of (show zi_i138.all _ = true from zi_ok138_0) (zi_okW1 rfl (by decide) (by decide) (zt_4 (k := 185) rfl rfl) (zt_1 (k := 1) rfl rfl) (by decide) (zt_4 (k := 184) rfl rfl) (by decide +kernel))
set_option maxRecDepth 20000 in
theorem zi_ok139 : zi_okM zi_m139 = true := zi_okM_of (show zi_i139.all _ = true from zi_ok139_0) (zi_okW1 rfl (by decide) (by decide) (zt_4 (k := 188) rfl rfl) (zt_1 (k := 1) rfl rfl) (by decide) (zt_4 (k := 187) rfl rfl) (by decide +kernel))
set_option maxRecDepth 20000 in
theorem zi_ok140 : zi_okM zi_m140 = true := zi_okM_of (show zi_i140.all _ = true from zi_all_app zi_ok140_0 (zi_all_app zi_ok140_1 (zi_ok140_2))) (zi_okW1 rfl (by decide) (by decide) (zt_4 (k := 120) rfl rfl) (zt_1 (k := 1) rfl rfl) (by decide) (zt_4 (k := 119) rfl rfl) (by decide +kernel))
set_option maxRecDepth 20000 in
theorem zi_ok141 : zi_okM zi_m141 = true := zi_okM_of (show zi_i141.all _ = true from zi_all_app zi_ok141_0 (zi_all_app zi_ok141_1 (zi_all_app zi_ok141_2 (zi_all_app zi_ok141_3 (zi_all_app zi_ok141_4 (zi_all_app zi_ok141_5 (zi_all_app zi_ok141_6 (zi_all_app zi_ok141_7 (zi_ok141_8))))))))) (zi_okW2 rfl (by decide) (by decide) (zt_5 (k := 4) rfl rfl) (zt_1 (k := 10) rfl rfl) (by decide) (zt_5 (k := 3) rfl rfl) (by decide +kernel) rfl)
set_option maxRecDepth 20000 in
theorem zi_ok142 : zi_okM zi_m142 = true := zi_okM_of (show zi_i142.all _ = true from zi_ok142_0) (zi_okW1 rfl (by decide) (by decide) (zt_5 (k := 140) rfl rfl) (zt_1 (k := 10) rfl rfl) (by decide) (zt_5 (k := 139) rfl rfl) (by decide +kernel))
set_option maxRecDepth 20000 in
theorem zi_ok143 : zi_okM zi_m143 = true := zi_okM_of (show zi_i143.all _ = true from zi_ok143_0) (zi_okW1 rfl (by decide) (by decide) (zt_5 (k := 220) rfl rfl) (zt_1 (k := 10) rfl rfl) (by decide) (zt_5 (k := 219) rfl rfl) (by decide +kernel))
set_option maxRecDepth 20000 in
theorem zi_ok144 : zi_okM zi_m144 = true := zi_okM_of (show zi_i144.all _ = true from zi_ok144_0) (zi_okW0 rfl (by decide) (zt_5 (k := 213) rfl rfl) (zt_1 (k := 10) rfl rfl) (by decide) (zt_5 (k := 212) rfl rfl) (zt_0 (k := 44) rfl) (by decide +kernel))
set_option maxRecDepth 20000 in
theorem zi_ok145 : zi_okM zi_m145 = true := zi_okM_of (show zi_i145.all _ = true from zi_ok145_0) (zi_okW0 rfl (by decide) (zt_5 (k := 13) rfl rfl) (zt_1 (k := 10) rfl rfl) (by decide) (zt_5 (k := 12) rfl rfl) (zt_0 (k := 29) rfl) (by decide +kernel))
set_option maxRecDepth 20000 in
theorem zi_ok146 : zi_okM zi_m146 = true := zi_okM_of (show zi_i146.all _ = true from zi_ok146_0) (zi_okW0 rfl (by decide) (zt_5 (k := 228) rfl rfl) (zt_1 (k := 10) rfl rfl) (by decide) (zt_5 (k := 227) rfl rfl) (zt_0 (k := 47) rfl) (by decide +kernel))
set_option maxRecDepth 20000 in
theorem zi_ok147 : zi_okM zi_m147 = true := zi_okM_of (show zi_i147.all _ = true from zi_ok147_0) (zi_okW0 rfl (by decide) (zt_5 (k := 205) rfl rfl) (zt_1 (k := 10) rfl rfl) (by decide) (zt_5 (k := 204) rfl rfl) (zt_0 (k := 42) rfl) (by decide +kernel))
set_option maxRecDepth 20000 in
theorem zi_ok148 : zi_okM zi_m148 = true := zi_okM_of (show zi_i148.all _ = true from zi_all_app zi_ok148_0 (zi_all_app zi_ok148_1 (zi_all_app zi_ok148_2 (zi_ok148_3)))) (zi_okW0 rfl (by decide) (zt_5 (k := 9) rfl rfl) (zt_1 (k := 10) rfl rfl) (by decide) (zt_5 (k := 8) rfl rfl) (zt_0 (k := 28) rfl) (by decide +kernel))
set_option maxRecDepth 20000 in
theorem zi_ok149 : zi_okM zi_m149 = true := zi_okM_of (show zi_i149.all _ = true from zi_all_app zi_ok149_0 (zi_all_app zi_ok149_1 (zi_all_app zi_ok149_2 (zi_ok149_3)))) (zi_okW0 rfl (by decide) (zt_5 (k := 239) rfl rfl) (zt_1 (k := 10) rfl rfl) (by decide) (zt_5 (k := 238) rfl rfl) (zt_0 (k := 49) rfl) (by decide +kernel))
set_option maxRecDepth 20000 in
theorem zi_ok150 : zi_okM zi_m150 = true := zi_okM_of (show zi_i150.all _ = true from zi_all_app zi_ok150_0 (zi_all_app zi_ok150_1 (zi_ok150_2))) (zi_okW0 rfl (by decide) (zt_5 (k := 217) rfl rfl) (zt_1 (k := 10) rfl rfl) (by decide) (zt_5 (k := 216) rfl rfl) (zt_0 (k := 45) rfl) (by decide +kernel))
set_option maxRecDepth 20000 in
theorem zi_ok151 : zi_okM zi_m151 = true := zi_okM_of (show zi_i151.all _ = true from zi_all_app zi_ok151_0 (zi_all_app zi_ok151_1 (zi_ok151_2))) (zi_okW0 rfl (by decide) (zt_5 (k := 209) rfl rfl) (zt_1 (k := 10) rfl rfl) (by decide) (zt_5 (k := 208) rfl rfl) (zt_0 (k := 43) rfl) (by decide +kernel))
set_option maxRecDepth 20000 in
theorem zi_ok152 : zi_okM zi_m152 = true := zi_okM_of (show zi_i152.all _ = true from zi_all_app zi_ok152_0 (zi_ok152_1)) (zi_okW0 rfl (by decide) (zt_6 (k := 23) rfl rfl) (zt_1 (k := 10) rfl rfl) (by decide) (zt_6 (k := 22) rfl rfl) (zt_0 (k := 55) rfl) (by decide +kernel))
set_option maxRecDepth 20000 in
theorem zi_ok153 : zi_okM zi_m153 = true := zi_okM_of (show zi_i153.all _ = true from zi_all_app zi_ok153_0 (zi_ok153_1)) (zi_okW0 rfl (by decide) (zt_6 (k := 47) rfl rfl) (zt_1 (k := 10) rfl rfl) (by decide) (zt_6 (k := 46) rfl rfl) (zt_0 (k := 61) rfl) (by decide +kernel))
set_option maxRecDepth 20000 in
theorem zi_ok154 : zi_okM zi_m154 = true := zi_okM_of (show zi_i154.all _ = true from zi_all_app zi_ok154_0 (zi_all_app zi_ok154_1 (zi_all_app zi_ok154_2 (zi_ok154_3)))) (zi_okW0 rfl (by decide) (zt_6 (k := 51) rfl rfl) (zt_1 (k := 10) rfl rfl) (by decide) (zt_6 (k := 50) rfl rfl) (zt_0 (k := 62) rfl) (by decide +kernel))
set_option maxRecDepth 20000 in
theorem zi_ok155 : zi_okM zi_m155 = true := zi_okM_of (show zi_i155.all _ = true from zi_all_app zi_ok155_0 (zi_all_app zi_ok155_1 (zi_ok155_2))) (zi_okW0 rfl (by decide) (zt_6 (k := 59) rfl rfl) (zt_1 (k := 10) rfl rfl) (by decide) (zt_6 (k := 58) rfl rfl) (zt_0 (k := 64) rfl) (by decide +kernel))
set_option maxRecDepth 20000 in
theorem zi_ok156 : zi_okM zi_m156 = true := zi_okM_of (show zi_i156.all _ = true from zi_all_app zi_ok156_0 (zi_all_app zi_ok156_1 (zi_all_app zi_ok156_2 (zi_ok156_3)))) (zi_okW0 rfl (by decide) (zt_6 (k := 63) rfl rfl) (zt_1 (k := 10) rfl rfl) (by decide) (zt_6 (k := 62) rfl rfl) (zt_0 (k := 65) rfl) (by decide +kernel))
set_option maxRecDepth 20000 in
theorem zi_ok157 : zi_okM zi_m157 = true := zi_okM_of (show zi_i157.all _ = true from zi_all_app zi_ok157_0 (zi_all_app zi_ok157_1 (zi_all_app zi_ok157_2 (zi_all_app zi_ok157_3 (zi_all_app zi_ok157_4 (zi_ok157_5)))))) (zi_okW0 rfl (by decide) (zt_6 (k := 55) rfl rfl) (zt_1 (k := 10) rfl rfl) (by decide) (zt_6 (k := 54) rfl rfl) (zt_0 (k := 63) rfl) (by decide +kernel))
set_option maxRecDepth 20000 in
theorem zi_ok158 : zi_okM zi_m158 = true := zi_okM_of (show zi_i158.all _ = true from zi_ok158_0) (zi_okW0 rfl (by decide) (zt_6 (k := 31) rfl rfl) (zt_1 (k := 10) rfl rfl) (by decide) (zt_6 (k := 30) rfl rfl) (zt_0 (k := 57) rfl) (by decide +kernel))
set_option maxRecDepth 20000 in
theorem zi_ok159 : zi_okM zi_m159 = true := zi_okM_of (show zi_i159.all _ = true from zi_ok159_0) (zi_okW0 rfl (by decide) (zt_6 (k := 27) rfl rfl) (zt_1 (k := 10) rfl rfl) (by decide) (zt_6 (k := 26) rfl rfl) (zt_0 (k := 56) rfl) (by decide +kernel))
set_option maxRecDepth 20000 in
theorem zi_ok160 : zi_okM zi_m160 = true := zi_okM_of (show zi_i160.all _ = true from zi_all_app zi_ok160_0 (zi_ok160_1)) (zi_okW0 rfl (by decide) (zt_6 (k := 15) rfl rfl) (zt_1 (k := 10) rfl rfl) (by decide) (zt_6 (k := 14) rfl rfl) (zt_0 (k := 53) rfl) (by decide +kernel))
set_option maxRecDepth 20000 in
theorem zi_ok161 : zi_okM zi_m161 = true := zi_okM_of (show zi_i161.all _ = true from zi_all_app zi_ok161_0 (zi_ok161_1)) (zi_okW0 rfl (by decide) (zt_6 (k := 19) rfl rfl) (zt_1 (k := 10) rfl rfl) (by decide) (zt_6 (k := 18) rfl rfl) (zt_0 (k := 54) rfl) (by decide +kernel))
set_option maxRecDepth 20000 in
theorem zi_ok162 : zi_okM zi_m162 = true := zi_okM_of (show zi_i162.all _ = true from zi_all_app zi_ok162_0 (zi_ok162_1)) (zi_okW0 rfl (by decide) (zt_6 (k := 35) rfl rfl) (zt_1 (k := 10) rfl rfl) (by decide) (zt_6 (k := 34) rfl rfl) (zt_0 (k := 58) rfl) (by decide +kernel))
set_option maxRecDepth 20000 in
theorem zi_ok163 : zi_okM zi_m163 = true := zi_okM_of (show zi_i163.all _ = true from zi_all_app zi_ok163_0 (zi_all_app zi_ok163_1 (zi_all_app zi_ok163_2 (zi_all_app zi_ok163_3 (zi_all_app zi_ok163_4 (zi_ok163_5)))))) (zi_okW0 rfl (by decide) (zt_6 (k := 11) rfl rfl) (zt_1 (k := 10) rfl rfl) (by decide) (zt_6 (k := 10) rfl rfl) (zt_0 (k := 52) rfl) (by decide +kernel))
set_option maxRecDepth 20000 in
theorem zi_ok164 : zi_okM zi_m164 = true := zi_okM_of (show zi_i164.all _ = true from zi_all_app zi_ok164_0 (zi_all_app zi_ok164_1 (zi_all_app zi_ok164_2 (zi_ok164_3)))) (zi_okW0 rfl (by decide) (zt_6 (k := 43) rfl rfl) (zt_1 (k := 10) rfl rfl) (by decide) (zt_6 (k := 42) rfl rfl) (zt_0 (k := 60) rfl) (by decide +kernel))
set_option maxRecDepth 20000 in
theorem zi_ok165 : zi_okM zi_m165 = true := zi_okM_of (show zi_i165.all _ = true from zi_all_app zi_ok165_0 (zi_all_app zi_ok165_1 (zi_all_app zi_ok165_2 (zi_all_app zi_ok165_3 (zi_all_app zi_ok165_4 (zi_ok165_5)))))) (zi_okW0 rfl (by decide) (zt_6 (k := 39) rfl rfl) (zt_1 (k := 10) rfl rfl) (by decide) (zt_6 (k := 38) rfl rfl) (zt_0 (k := 59) rfl) (by decide +kernel))
set_option maxRecDepth 20000 in
theorem zi_ok166 : zi_okM zi_m166 = true := zi_okM_of (show zi_i166.all _ = true from zi_all_app zi_ok166_0 (zi_all_app zi_ok166_1 (zi_all_app zi_ok166_2 (zi_all_app zi_ok166_3 (zi_all_app zi_ok166_4 (zi_all_app zi_ok166_5 (zi_all_app zi_ok166_6 (zi_ok166_7)))))))) (zi_okW0 rfl (by decide) (zt_6 (k := 67) rfl rfl) (zt_1 (k := 10) rfl rfl) (by decide) (zt_6 (k := 66) rfl rfl) (zt_0 (k := 66) rfl) (by decide +kernel))
set_option maxRecDepth 20000 in
theorem zi_ok167 : zi_okM zi_m167 = true := zi_okM_of (show zi_i167.all _ = true from zi_all_app zi_ok167_0 (zi_all_app zi_ok167_1 (zi_all_app zi_ok167_2 (zi_ok167_3)))) (zi_okW0 rfl (by decide) (zt_6 (k := 75) rfl rfl) (zt_1 (k := 10) rfl rfl) (by decide) (zt_6 (k := 74) rfl rfl) (zt_0 (k := 68) rfl) (by decide +kernel))
set_option maxRecDepth 20000 in
theorem zi_ok168 : zi_okM zi_m168 = true := zi_okM_of (show zi_i168.all _ = true from zi_all_app zi_ok168_0 (zi_all_app zi_ok168_1 (zi_all_app zi_ok168_2 (zi_all_app zi_ok168_3 (zi_all_app zi_ok168_4 (zi_all_app zi_ok168_5 (zi_all_app zi_ok168_6 (zi_ok168_7)))))))) (zi_okW0 rfl (by decide) (zt_6 (k := 71) rfl rfl) (zt_1 (k := 10) rfl rfl) (by decide) (zt_6 (k := 70) rfl rfl) (zt_0 (k := 67) rfl) (by decide +kernel))
set_option maxRecDepth 20000 in
theorem zi_ok169 : zi_okM zi_m169 = true := zi_okM_of (show zi_i169.all _ = true from zi_all_app zi_ok169_0 (zi_all_app zi_ok169_1 (zi_ok169_2))) (zi_okW0 rfl (by decide) (zt_6 (k := 83) rfl rfl) (zt_1 (k := 10) rfl rfl) (by decide) (zt_6 (k := 82) rfl rfl) (zt_0 (k := 70) rfl) (by decide +kernel))
set_option maxRecDepth 20000 in
theorem zi_ok170 : zi_okM zi_m170 = true := zi_okM_of (show zi_i170.all _ = true from zi_all_app zi_ok170_0 (zi_all_app zi_ok170_1 (zi_all_app zi_ok170_2 (zi_all_app zi_ok170_3 (zi_all_app zi_ok170_4 (zi_ok170_5)))))) (zi_okW0 rfl (by decide) (zt_6 (k := 79) rfl rfl) (zt_1 (k := 10) rfl rfl) (by decide) (zt_6 (k := 78) rfl rfl) (zt_0 (k := 69) rfl) (by decide +kernel))
set_option maxRecDepth 20000 in
theorem zi_ok171 : zi_okM zi_m171 = true := zi_okM_of (show zi_i171.all _ = true from zi_all_app zi_ok171_0 (zi_all_app zi_ok171_1 (zi_all_app zi_ok171_2 (zi_all_app zi_ok171_3 (zi_all_app zi_ok171_4 (zi_all_app zi_ok171_5 (zi_all_app zi_ok171_6 (zi_all_app zi_ok171_7 (zi_all_app zi_ok171_8 (zi_ok171_9)))))))))) (zi_okW0 rfl (by decide) (zt_6 (k := 87) rfl rfl) (zt_1 (k := 10) rfl rfl) (by decide) (zt_6 (k := 86) rfl rfl) (zt_0 (k := 71) rfl) (by decide +kernel))
set_option maxRecDepth 20000 in
theorem zi_ok172 : zi_okM zi_m172 = true := zi_okM_of (show zi_i172.all _ = true from zi_all_app zi_ok172_0 (zi_all_app zi_ok172_1 (zi_all_app zi_ok172_2 (zi_ok172_3)))) (zi_okW0 rfl (by decide) (zt_6 (k := 7) rfl rfl) (zt_1 (k := 10) rfl rfl) (by decide) (zt_6 (k := 6) rfl rfl) (zt_0 (k := 51) rfl) (by decide +kernel))
set_option maxRecDepth 20000 in
theorem zi_ok173 : zi_okM zi_m173 = true := zi_okM_of (show zi_i173.all _ = true from zi_ok173_0) (zi_okW1 rfl (by decide) (by decide) (zt_5 (k := 231) rfl rfl) (zt_1 (k := 10) rfl rfl) (by decide) (zt_5 (k := 230) rfl rfl) (by decide +kernel))
set_option maxRecDepth 20000 in
theorem zi_ok174 : zi_okM zi_m174 = true := zi_okM_of (show zi_i174.all _ = true from zi_all_app zi_ok174_0 (zi_all_app zi_ok174_1 (zi_all_app zi_ok174_2 (zi_all_app zi_ok174_3 (zi_all_app zi_ok174_4 (zi_all_app zi_ok174_5 (zi_ok174_6))))))) (zi_okW0 rfl (by decide) (zt_6 (k := 3) rfl rfl) (zt_1 (k := 10) rfl rfl) (by decide) (zt_6 (k := 2) rfl rfl) (zt_0 (k := 50) rfl) (by decide +kernel))
set_option maxRecDepth 20000 in
theorem zi_ok175 : zi_okM zi_m175 = true := zi_okM_of (show zi_i175.all _ = true from zi_all_app zi_ok175_0 (zi_all_app zi_ok175_1 (zi_all_app zi_ok175_2 (zi_all_app zi_ok175_3 (zi_all_app zi_ok175_4 (zi_all_app zi_ok175_5 (zi_all_app zi_ok175_6 (zi_ok175_7)))))))) (zi_okW0 rfl (by decide) (zt_5 (k := 235) rfl rfl) (zt_1 (k := 10) rfl rfl) (by decide) (zt_5 (k := 234) rfl rfl) (zt_0 (k := 48) rfl) (by decide +kernel))
set_option maxRecDepth 20000 in
theorem zi_ok176 : zi_okM zi_m176 = true := zi_okM_of (show zi_i176.all _ = true from zi_all_app zi_ok176_0 (zi_ok176_1)) (zi_okW0 rfl (by decide) (zt_5 (k := 224) rfl rfl) (zt_1 (k := 10) rfl rfl) (by decide) (zt_5 (k := 223) rfl rfl) (zt_0 (k := 46) rfl) (by decide +kernel))
set_option maxRecDepth 20000 in
theorem zi_ok177 : zi_okM zi_m177 = true := zi_okM_of (show zi_i177.all _ = true from zi_all_app zi_ok177_0 (zi_all_app zi_ok177_1 (zi_all_app zi_ok177_2 (zi_all_app zi_ok177_3 (zi_all_app zi_ok177_4 (zi_ok177_5)))))) (zi_okW0 rfl (by decide) (zt_5 (k := 201) rfl rfl) (zt_1 (k := 10) rfl rfl) (by decide) (zt_5 (k := 200) rfl rfl) (zt_0 (k := 41) rfl) (by decide +kernel))
set_option maxRecDepth 20000 in
theorem zi_ok178 : zi_okM zi_m178 = true := zi_okM_of (show zi_i178.all _ = true from zi_all_app zi_ok178_0 (zi_ok178_1)) (zi_okW0 rfl (by decide) (zt_6 (k := 157) rfl rfl) (zt_1 (k := 10) rfl rfl) (by decide) (zt_6 (k := 156) rfl rfl) (zt_0 (k := 77) rfl) (by decide +kernel))
set_option maxRecDepth 20000 in
theorem zi_ok179 : zi_okM zi_m179 = true := zi_okM_of (show zi_i179.all _ = true from zi_all_app zi_ok179_0 (zi_ok179_1)) (zi_okW0 rfl (by decide) (zt_5 (k := 197) rfl rfl) (zt_1 (k := 10) rfl rfl) (by decide) (zt_5 (k := 196) rfl rfl) (zt_0 (k := 40) rfl) (by decide +kernel))
set_option maxRecDepth 20000 in
theorem zi_ok180 : zi_okM zi_m180 = true := zi_okM_of (show zi_i180.all _ = true from zi_all_app zi_ok180_0 (zi_all_app zi_ok180_1 (zi_ok180_2))) (zi_okW0 rfl (by decide) (zt_5 (k := 136) rfl rfl) (zt_1 (k := 10) rfl rfl) (by decide) (zt_5 (k := 134) rfl rfl) (zt_5 (k := 135) rfl rfl) (by decide +kernel))
set_option maxRecDepth 20000 in
theorem zi_ok181 : zi_okM zi_m181 = true := zi_okM_of (show zi_i181.all _ = true from zi_all_app zi_ok181_0 (zi_ok181_1)) (zi_okW0 rfl (by decide) (zt_5 (k := 144) rfl rfl) (zt_1 (k := 10) rfl rfl) (by decide) (zt_5 (k := 142) rfl rfl) (zt_5 (k := 143) rfl rfl) (by decide +kernel))
set_option maxRecDepth 20000 in
theorem zi_ok182 : zi_okM zi_m182 = true := zi_okM_of (show zi_i182.all _ = true from zi_all_app zi_ok182_0 (zi_ok182_1)) (zi_okW0 rfl (by decide) (zt_5 (k := 164) rfl rfl) (zt_1 (k := 10) rfl rfl) (by decide) (zt_5 (k := 163) rfl rfl) (zt_0 (k := 32) rfl) (by decide +kernel))
set_option maxRecDepth 20000 in
theorem zi_ok183 : zi_okM zi_m183 = true := zi_okM_of (show zi_i183.all _ = true from zi_ok183_0) (zi_okW0 rfl (by decide) (zt_5 (k := 156) rfl rfl) (zt_1 (k := 10) rfl rfl) (by decide) (zt_5 (k := 155) rfl rfl) (zt_0 (k := 31) rfl) (by decide +kernel))
set_option maxRecDepth 20000 in
theorem zi_ok184 : zi_okM zi_m184 = true := zi_okM_of (show zi_i184.all _ = true from zi_all_app zi_ok184_0 (zi_all_app zi_ok184_1 (zi_all_app zi_ok184_2 (zi_ok184_3)))) (zi_okW0 rfl (by decide) (zt_5 (k := 176) rfl rfl) (zt_1 (k := 10) rfl rfl) (by decide) (zt_5 (k := 175) rfl rfl) (zt_0 (k := 35) rfl) (by decide +kernel))
set_option maxRecDepth 20000 in
theorem zi_ok185 : zi_okM zi_m185 = true := zi_okM_of (show zi_i185.all _ = true from zi_all_app zi_ok185_0 (zi_all_app zi_ok185_1 (zi_all_app zi_ok185_2 (zi_ok185_3)))) (zi_okW0 rfl (by decide) (zt_5 (k := 172) rfl rfl) (zt_1 (k := 10) rfl rfl) (by decide) (zt_5 (k := 171) rfl rfl) (zt_0 (k := 34) rfl) (by decide +kernel))
set_option maxRecDepth 20000 in
theorem zi_ok186 : zi_okM zi_m186 = true := zi_okM_of (show zi_i186.all _ = true from zi_all_app zi_ok186_0 (zi_all_app zi_ok186_1 (zi_all_app zi_ok186_2 (zi_all_app zi_ok186_3 (zi_all_app zi_ok186_4 (zi_all_app zi_ok186_5 (zi_all_app zi_ok186_6 (zi_all_app zi_ok186_7 (zi_all_app zi_ok186_8 (zi_all_app zi_ok186_9 (zi_all_app zi_ok186_10 (zi_ok186_11)))))))))))) (zi_okW0 rfl (by decide) (zt_5 (k := 152) rfl rfl) (zt_1 (k := 10) rfl rfl) (by decide) (zt_5 (k := 151) rfl rfl) (zt_0 (k := 30) rfl) (by decide +kernel))
set_option maxRecDepth 20000 in
theorem zi_ok187 : zi_okM zi_m187 = true := zi_okM_of (show zi_i187.all _ = true from zi_all_app zi_ok187_0 (zi_all_app zi_ok187_1 (zi_all_app zi_ok187_2 (zi_ok187_3)))) (zi_okW0 rfl (by decide) (zt_5 (k := 180) rfl rfl) (zt_1 (k := 10) rfl rfl) (by decide) (zt_5 (k := 179) rfl rfl) (zt_0 (k := 36) rfl) (by decide +kernel))
set_option maxRecDepth 20000 in
theorem zi_ok188 : zi_okM zi_m188 = true := zi_okM_of (show zi_i188.all _ = true from zi_all_app zi_ok188_0 (zi_all_app zi_ok188_1 (zi_ok188_2))) (zi_okW0 rfl (by decide) (zt_5 (k := 189) rfl rfl) (zt_1 (k := 10) rfl rfl) (by decide) (zt_5 (k := 188) rfl rfl) (zt_0 (k := 38) rfl) (by decide +kernel))
set_option maxRecDepth 20000 in
theorem zi_ok189 : zi_okM zi_m189 = true := zi_okM_of (show zi_i189.all _ = true from zi_all_app zi_ok189_0 (zi_all_app zi_ok189_1 (zi_all_app zi_ok189_2 (zi_all_app zi_ok189_3 (zi_all_app zi_ok189_4 (zi_all_app zi_ok189_5 (zi_ok189_6))))))) (zi_okW0 rfl (by decide) (zt_5 (k := 184) rfl rfl) (zt_1 (k := 10) rfl rfl) (by decide) (zt_5 (k := 183) rfl rfl) (zt_0 (k := 37) rfl) (by decide +kernel))
set_option maxRecDepth 20000 in
theorem zi_ok190 : zi_okM zi_m190 = true := zi_okM_of (show zi_i190.all _ = true from zi_all_app zi_ok190_0 (zi_all_app zi_ok190_1 (zi_all_app zi_ok190_2 (zi_all_app zi_ok190_3 (zi_ok190_4))))) (zi_okW0 rfl (by decide) (zt_5 (k := 193) rfl rfl) (zt_1 (k := 10) rfl rfl) (by decide) (zt_5 (k := 192) rfl rfl) (zt_0 (k := 39) rfl) (by decide +kernel))
set_option maxRecDepth 20000 in
theorem zi_ok191 : zi_okM zi_m191 = true := zi_okM_of (show zi_i191.all _ = true from zi_all_app zi_ok191_0 (zi_all_app zi_ok191_1 (zi_all_app zi_ok191_2 (zi_all_app zi_ok191_3 (zi_all_app zi_ok191_4 (zi_all_app zi_ok191_5 (zi_ok191_6))))))) (zi_okW0 rfl (by decide) (zt_5 (k := 168) rfl rfl) (zt_1 (k := 10) rfl rfl) (by decide) (zt_5 (k := 167) rfl rfl) (zt_0 (k := 33) rfl) (by decide +kernel))
set_option maxRecDepth 20000 in
theorem zi_ok192 : zi_okM zi_m192 = true := zi_okM_of (show zi_i192.all _ = true from zi_all_app zi_ok192_0 (zi_all_app zi_ok192_1 (zi_all_app zi_ok192_2 (zi_all_app zi_ok192_3 (zi_all_app zi_ok192_4 (zi_all_app zi_ok192_5 (zi_all_app zi_ok192_6 (zi_all_app zi_ok192_7 (zi_ok192_8))))))))) (zi_okW0 rfl (by decide) (zt_5 (k := 148) rfl rfl) (zt_1 (k := 10) rfl rfl) (by decide) (zt_5 (k := 146) rfl rfl) (zt_5 (k := 147) rfl rfl) (by decide +kernel))
set_option maxRecDepth 20000 in
theorem zi_ok193 : zi_okM zi_m193 = true := zi_okM_of (show zi_i193.all _ = true from zi_ok193_0) (zi_okW0 rfl (by decide) (zt_6 (k := 91) rfl rfl) (zt_1 (k := 10) rfl rfl) (by decide) (zt_6 (k := 89) rfl rfl) (zt_6 (k := 90) rfl rfl) (by decide +kernel))
set_option maxRecDepth 20000 in
theorem zi_ok194 : zi_okM zi_m194 = true := zi_okM_of (show zi_i194.all _ = true from zi_ok194_0) (zi_okW0 rfl (by decide) (zt_6 (k := 119) rfl rfl) (zt_1 (k := 10) rfl rfl) (by decide) (zt_6 (k := 118) rfl rfl) (zt_0 (k := 76) rfl) (by decide +kernel))
set_option maxRecDepth 20000 in
theorem zi_ok195 : zi_okM zi_m195 = true := zi_okM_of (show zi_i195.all _ = true from zi_ok195_0) (zi_okW1 rfl (by decide) (by decide) (zt_6 (k := 134) rfl rfl) (zt_1 (k := 10) rfl rfl) (by decide) (zt_6 (k := 133) rfl rfl) (by decide +kernel))
set_option maxRecDepth 20000 in
theorem zi_ok196 : zi_okM zi_m196 = true := zi_okM_of (show zi_i196.all _ = true from zi_ok196_0) (zi_okW1 rfl (by decide) (by decide) (zt_6 (k := 127) rfl rfl) (zt_1 (k := 10) rfl rfl) (by decide) (zt_6 (k := 126) rfl rfl) (by decide +kernel))
set_option maxRecDepth 20000 in
theorem zi_ok197 : zi_okM zi_m197 = true := zi_okM_of (show zi_i197.all _ = true from zi_all_app zi_ok197_0 (zi_ok197_1)) (zi_okW0 rfl (by decide) (zt_6 (k := 111) rfl rfl) (zt_1 (k := 10) rfl rfl) (by decide) (zt_6 (k := 110) rfl rfl) (zt_0 (k := 75) rfl) (by decide +kernel))
set_option maxRecDepth 20000 in
theorem zi_ok198 : zi_okM zi_m198 = true := zi_okM_of (show zi_i198.all _ = true from zi_all_app zi_ok198_0 (zi_all_app zi_ok198_1 (zi_ok198_2))) (zi_okW0 rfl (by decide) (zt_6 (k := 103) rfl rfl) (zt_1 (k := 10) rfl rfl) (by decide) (zt_6 (k := 102) rfl rfl) (zt_0 (k := 73) rfl) (by decide +kernel))
set_option maxRecDepth 20000 in
theorem zi_ok199 : zi_okM zi_m199 = true := zi_okM_of (show zi_i199.all _ = true from zi_all_app zi_ok199_0 (zi_ok199_1)) (zi_okW0 rfl (by decide) (zt_6 (k := 107) rfl rfl) (zt_1 (k := 10) rfl rfl) (by decide) (zt_6 (k := 106) rfl rfl) (zt_0 (k := 74) rfl) (by decide +kernel))
set_option maxRecDepth 20000 in
theorem zi_ok200 : zi_okM zi_m200 = true := zi_okM_of (show zi_i200.all _ = true from zi_all_app zi_ok200_0 (zi_all_app zi_ok200_1 (zi_all_app zi_ok200_2 (zi_ok200_3)))) (zi_okW0 rfl (by decide) (zt_6 (k := 99) rfl rfl) (zt_1 (k := 10) rfl rfl) (by decide) (zt_6 (k := 98) rfl rfl) (zt_0 (k := 72) rfl) (by decide +kernel))
set_option maxRecDepth 20000 in
theorem zi_ok201 : zi_okM zi_m201 = true := zi_okM_of (show zi_i201.all _ = true from zi_all_app zi_ok201_0 (zi_all_app zi_ok201_1 (zi_all_app zi_ok201_2 (zi_ok201_3)))) (zi_okW0 rfl (by decide) (zt_6 (k := 95) rfl rfl) (zt_1 (k := 10) rfl rfl) (by decide) (zt_6 (k := 93) rfl rfl) (zt_6 (k := 94) rfl rfl) (by decide +kernel))
set_option maxRecDepth 20000 in
theorem zi_ok202 : zi_okM zi_m202 = true := zi_okM_of (show zi_i202.all _ = true from zi_all_app zi_ok202_0 (zi_all_app zi_ok202_1 (zi_ok202_2))) (zi_okW0 rfl (by decide) (zt_6 (k := 115) rfl rfl) (zt_1 (k := 10) rfl rfl) (by decide) (zt_6 (k := 113) rfl rfl) (zt_6 (k := 114) rfl rfl) (by decide +kernel))
set_option maxRecDepth 20000 in
theorem zi_ok203 : zi_okM zi_m203 = true := zi_okM_of (show zi_i203.all _ = true from zi_all_app zi_ok203_0 (zi_all_app zi_ok203_1 (zi_all_app zi_ok203_2 (zi_ok203_3)))) (zi_okW0 rfl (by decide) (zt_6 (k := 124) rfl rfl) (zt_1 (k := 10) rfl rfl) (by decide) (zt_6 (k := 122) rfl rfl) (zt_6 (k := 123) rfl rfl) (by decide +kernel))
set_option maxRecDepth 20000 in
theorem zi_ok204 : zi_okM zi_m204 = true := zi_okM_of (show zi_i204.all _ = true from zi_all_app zi_ok204_0 (zi_all_app zi_ok204_1 (zi_ok204_2))) (zi_okW0 rfl (by decide) (zt_6 (k := 131) rfl rfl) (zt_1 (k := 10) rfl rfl) (by decide) (zt_6 (k := 129) rfl rfl) (zt_6 (k := 130) rfl rfl) (by decide +kernel))
set_option maxRecDepth 20000 in
theorem zi_ok205 : zi_okM zi_m205 = true := zi_okM_of (show zi_i205.all _ = true from zi_ok205_0) (zi_okW0 rfl (by decide) (zt_6 (k := 139) rfl rfl) (zt_1 (k := 10) rfl rfl) (by decide) (zt_6 (k := 137) rfl rfl) (zt_6 (k := 138) rfl rfl) (by decide +kernel))
set_option maxRecDepth 20000 in
theorem zi_ok206 : zi_okM zi_m206 = true := zi_okM_of (show zi_i206.all _ = true from zi_all_app zi_ok206_0 (zi_all_app zi_ok206_1 (zi_ok206_2))) (zi_okW0 rfl (by decide) (zt_6 (k := 144) rfl rfl) (zt_1 (k := 10) rfl rfl) (by decide) (zt_6 (k := 142) rfl rfl) (zt_6 (k := 143) rfl rfl) (by decide +kernel))
set_option maxRecDepth 20000 in
theorem zi_ok207 : zi_okM zi_m207 = true := zi_okM_of (show zi_i207.all _ = true from zi_ok207_0) (zi_okW0 rfl (by decide) (zt_6 (k := 148) rfl rfl) (zt_1 (k := 10) rfl rfl) (by decide) (zt_6 (k := 146) rfl rfl) (zt_6 (k := 147) rfl rfl) (by decide +kernel))
set_option maxRecDepth 20000 in
theorem zi_ok208 : zi_okM zi_m208 = true := zi_okM_of (show zi_i208.all _ = true from zi_all_app zi_ok208_0 (zi_ok208_1)) (zi_okW0 rfl (by decide) (zt_6 (k := 152) rfl rfl) (zt_1 (k := 10) rfl rfl) (by decide) (zt_6 (k := 150) rfl rfl) (zt_6 (k := 151) rfl rfl) (by decide +kernel))
set_option maxRecDepth 20000 in
theorem zi_ok209 : zi_okM zi_m209 = true := zi_okM_of (show zi_i209.all _ = true from zi_all_app zi_ok209_0 (zi_ok209_1)) (zi_okW0 rfl (by decide) (zt_6 (k := 161) rfl rfl) (zt_1 (k := 10) rfl rfl) (by decide) (zt_6 (k := 159) rfl rfl) (zt_6 (k := 160) rfl rfl) (by decide +kernel))
set_option maxRecDepth 20000 in
theorem zi_ok210 : zi_okM zi_m210 = true := zi_okM_of (show zi_i210.all _ = true from zi_all_app zi_ok210_0 (zi_all_app zi_ok210_1 (zi_all_app zi_ok210_2 (zi_ok210_3)))) (zi_okW0 rfl (by decide) (zt_6 (k := 165) rfl rfl) (zt_1 (k := 10) rfl rfl) (by decide) (zt_6 (k := 163) rfl rfl) (zt_6 (k := 164) rfl rfl) (by decide +kernel))
set_option maxRecDepth 20000 in
theorem zi_ok211 : zi_okM zi_m211 = true := zi_okM_of (show zi_i211.all _ = true from zi_all_app zi_ok211_0 (zi_ok211_1)) (zi_okW0 rfl (by decide) (zt_6 (k := 187) rfl rfl) (zt_1 (k := 10) rfl rfl) (by decide) (zt_6 (k := 186) rfl rfl) (zt_0 (k := 81) rfl) (by decide +kernel))
set_option maxRecDepth 20000 in
theorem zi_ok212 : zi_okM zi_m212 = true := zi_okM_of (show zi_i212.all _ = true from zi_all_app zi_ok212_0 (zi_ok212_1)) (zi_okW0 rfl (by decide) (zt_6 (k := 195) rfl rfl) (zt_1 (k := 10) rfl rfl) (by decide) (zt_6 (k := 194) rfl rfl) (zt_0 (k := 83) rfl) (by decide +kernel))
set_option maxRecDepth 20000 in
theorem zi_ok213 : zi_okM zi_m213 = true := zi_okM_of (show zi_i213.all _ = true from zi_all_app zi_ok213_0 (zi_all_app zi_ok213_1 (zi_all_app zi_ok213_2 (zi_all_app zi_ok213_3 (zi_all_app zi_ok213_4 (zi_all_app zi_ok213_5 (zi_all_app zi_ok213_6 (zi_all_app zi_ok213_7 (zi_all_app zi_ok213_8 (zi_all_app zi_ok213_9 (zi_all_app zi_ok213_10 (zi_all_app zi_ok213_11 (zi_all_app zi_ok213_12 (zi_ok213_13)))))))))))))) (zi_okW0 rfl (by decide) (zt_6 (k := 191) rfl rfl) (zt_1 (k := 10) rfl rfl) (by decide) (zt_6 (k := 190) rfl rfl) (zt_0 (k := 82) rfl) (by decide +kernel))
set_option maxRecDepth 20000 in
theorem zi_ok214 : zi_okM zi_m214 = true := zi_okM_of (show zi_i214.all _ = true from zi_all_app zi_ok214_0 (zi_ok214_1)) (zi_okW1 rfl (by decide) (by decide) (zt_6 (k := 198) rfl rfl) (zt_1 (k := 10) rfl rfl) (by decide) (zt_6 (k := 197) rfl rfl) (by decide +kernel))
set_option maxRecDepth 20000 in
theorem zi_ok215 : zi_okM zi_m215 = true := zi_okM_of (show zi_i215.all _ = true from zi_all_app zi_ok215_0 (zi_all_app zi_ok215_1 (zi_ok215_2))) (zi_okW0 rfl (by decide) (zt_6 (k := 183) rfl rfl) (zt_1 (k := 10) rfl rfl) (by decide) (zt_6 (k := 182) rfl rfl) (zt_0 (k := 80) rfl) (by decide +kernel))
set_option maxRecDepth 20000 in
theorem zi_ok216 : zi_okM zi_m216 = true := zi_okM_of (show zi_i216.all _ = true from zi_all_app zi_ok216_0 (zi_all_app zi_ok216_1 (zi_all_app zi_ok216_2 (zi_all_app zi_ok216_3 (zi_all_app zi_ok216_4 (zi_ok216_5)))))) (zi_okW0 rfl (by decide) (zt_6 (k := 178) rfl rfl) (zt_1 (k := 10) rfl rfl) (by decide) (zt_6 (k := 177) rfl rfl) (zt_0 (k := 79) rfl) (by decide +kernel))
set_option maxRecDepth 20000 in
theorem zi_ok217 : zi_okM zi_m217 = true := zi_okM_of (show zi_i217.all _ = true from zi_all_app zi_ok217_0 (zi_all_app zi_ok217_1 (zi_all_app zi_ok217_2 (zi_all_app zi_ok217_3 (zi_all_app zi_ok217_4 (zi_all_app zi_ok217_5 (zi_all_app zi_ok217_6 (zi_all_app zi_ok217_7 (zi_all_app zi_ok217_8 (zi_ok217_9)))))))))) (zi_okW0 rfl (by decide) (zt_6 (k := 174) rfl rfl) (zt_1 (k := 10) rfl rfl) (by decide) (zt_6 (k := 173) rfl rfl) (zt_0 (k := 78) rfl) (by decide +kernel))
set_option maxRecDepth 20000 in
theorem zi_ok218 : zi_okM zi_m218 = true := zi_okM_of (show zi_i218.all _ = true from zi_all_app zi_ok218_0 (zi_all_app zi_ok218_1 (zi_ok218_2))) (zi_okW0 rfl (by decide) (zt_6 (k := 170) rfl rfl) (zt_1 (k := 10) rfl rfl) (by decide) (zt_6 (k := 168) rfl rfl) (zt_6 (k := 169) rfl rfl) (by decide +kernel))
set_option maxRecDepth 20000 in
theorem zi_ok219 : zi_okM zi_m219 = true := zi_okM_of (show zi_i219.all _ = true from zi_all_app zi_ok219_0 (zi_ok219_1)) (zi_okW1 rfl (by decide) (by decide) (zt_6 (k := 205) rfl rfl) (zt_1 (k := 10) rfl rfl) (by decide) (zt_6 (k := 204) rfl rfl) (by decide +kernel))
set_option maxRecDepth 20000 in
theorem zi_ok220 : zi_okM zi_m220 = true := zi_okM_of (show zi_i220.all _ = true from zi_all_app zi_ok220_0 (zi_ok220_1)) (zi_okW0 rfl (by decide) (zt_6 (k := 202) rfl rfl) (zt_1 (k := 10) rfl rfl) (by decide) (zt_6 (k := 200) rfl rfl) (zt_6 (k := 201) rfl rfl) (by decide +kernel))
set_option maxRecDepth 20000 in
theorem zi_ok221 : zi_okM zi_m221 = true := zi_okM_of (show zi_i221.all _ = true from zi_all_app zi_ok221_0 (zi_ok221_1)) (zi_okW0 rfl (by decide) (zt_6 (k := 209) rfl rfl) (zt_1 (k := 10) rfl rfl) (by decide) (zt_6 (k := 207) rfl rfl) (zt_6 (k := 208) rfl rfl) (by decide +kernel))
set_option maxRecDepth 20000 in
theorem zi_ok222 : zi_okM zi_m222 = true := zi_okM_of (show zi_i222.all _ = true from zi_all_app zi_ok222_0 (zi_ok222_1)) (zi_okW1 rfl (by decide) (by decide) (zt_6 (k := 217) rfl rfl) (zt_1 (k := 10) rfl rfl) (by decide) (zt_6 (k := 216) rfl rfl) (by decide +kernel))
set_option maxRecDepth 20000 in
theorem zi_ok223 : zi_okM zi_m223 = true := zi_okM_of (show zi_i223.all _ = true from zi_all_app zi_ok223_0 (zi_all_app zi_ok223_1 (zi_all_app zi_ok223_2 (zi_ok223_3)))) (zi_okW0 rfl (by decide) (zt_6 (k := 213) rfl rfl) (zt_1 (k := 10) rfl rfl) (by decide) (zt_6 (k := 211) rfl rfl) (zt_6 (k := 212) rfl rfl) (by decide +kernel))
set_option maxRecDepth 20000 in
theorem zi_ok224 : zi_okM zi_m224 = true := zi_okM_of (show zi_i224.all _ = true from zi_all_app zi_ok224_0 (zi_all_app zi_ok224_1 (zi_all_app zi_ok224_2 (zi_ok224_3)))) (zi_okW0 rfl (by decide) (zt_6 (k := 225) rfl rfl) (zt_1 (k := 10) rfl rfl) (by decide) (zt_6 (k := 224) rfl rfl) (zt_0 (k := 84) rfl) (by decide +kernel))
set_option maxRecDepth 20000 in
theorem zi_ok225 : zi_okM zi_m225 = true := zi_okM_of (show zi_i225.all _ = true from zi_all_app zi_ok225_0 (zi_all_app zi_ok225_1 (zi_all_app zi_ok225_2 (zi_all_app zi_ok225_3 (zi_ok225_4))))) (zi_okW0 rfl (by decide) (zt_6 (k := 229) rfl rfl) (zt_1 (k := 10) rfl rfl) (by decide) (zt_6 (k := 228) rfl rfl) (zt_0 (k := 85) rfl) (by decide +kernel))
set_option maxRecDepth 20000 in
theorem zi_ok226 : zi_okM zi_m226 = true := zi_okM_of (show zi_i226.all _ = true from zi_all_app zi_ok226_0 (zi_all_app zi_ok226_1 (zi_all_app zi_ok226_2 (zi_all_app zi_ok226_3 (zi_ok226_4))))) (zi_okW0 rfl (by decide) (zt_6 (k := 233) rfl rfl) (zt_1 (k := 10) rfl rfl) (by decide) (zt_6 (k := 232) rfl rfl) (zt_0 (k := 86) rfl) (by decide +kernel))
set_option maxRecDepth 20000 in
theorem zi_ok227 : zi_okM zi_m227 = true := zi_okM_of (show zi_i227.all _ = true from zi_all_app zi_ok227_0 (zi_all_app zi_ok227_1 (zi_all_app zi_ok227_2 (zi_ok227_3)))) (zi_okW0 rfl (by decide) (zt_6 (k := 237) rfl rfl) (zt_1 (k := 10) rfl rfl) (by decide) (zt_6 (k := 236) rfl rfl) (zt_0 (k := 87) rfl) (by decide +kernel))
set_option maxRecDepth 20000 in
theorem zi_ok228 : zi_okM zi_m228 = true := zi_okM_of (show zi_i228.all _ = true from zi_all_app zi_ok228_0 (zi_all_app zi_ok228_1 (zi_all_app zi_ok228_2 (zi_all_app zi_ok228_3 (zi_ok228_4))))) (zi_okW0 rfl (by decide) (zt_7 (k := 5) rfl rfl) (zt_1 (k := 10) rfl rfl) (by decide) (zt_7 (k := 4) rfl rfl) (zt_0 (k := 89) rfl) (by decide +kernel))
set_option maxRecDepth 20000 in
theorem zi_ok229 : zi_okM zi_m229 = true := zi_okM_of (show zi_i229.all _ = true from zi_all_app zi_ok229_0 (zi_all_app zi_ok229_1 (zi_ok229_2))) (zi_okW0 rfl (by decide) (zt_7 (k := 1) rfl rfl) (zt_1 (k := 10) rfl rfl) (by decide) (zt_7 (k := 0) rfl rfl) (zt_0 (k := 88) rfl) (by decide +kernel))
set_option maxRecDepth 20000 in
theorem zi_ok230 : zi_okM zi_m230 = true := zi_okM_of (show zi_i230.all _ = true from zi_all_app zi_ok230_0 (zi_all_app zi_ok230_1 (zi_ok230_2))) (zi_okW0 rfl (by decide) (zt_6 (k := 221) rfl rfl) (zt_1 (k := 10) rfl rfl) (by decide) (zt_6 (k := 219) rfl rfl) (zt_6 (k := 220) rfl rfl) (by decide +kernel))
set_option maxRecDepth 20000 in
theorem zi_ok231 : zi_okM zi_m231 = true := zi_okM_of (show zi_i231.all _ = true from zi_all_app zi_ok231_0 (zi_ok231_1)) (zi_okW0 rfl (by decide) (zt_7 (k := 9) rfl rfl) (zt_1 (k := 10) rfl rfl) (by decide) (zt_7 (k := 7) rfl rfl) (zt_7 (k := 8) rfl rfl) (by decide +kernel))
set_option maxRecDepth 20000 in
theorem zi_ok232 : zi_okM zi_m232 = true := zi_okM_of (show zi_i232.all _ = true from zi_all_app zi_ok232_0 (zi_all_app zi_ok232_1 (zi_all_app zi_ok232_2 (zi_ok232_3)))) (zi_okW0 rfl (by decide) (zt_7 (k := 13) rfl rfl) (zt_1 (k := 10) rfl rfl) (by decide) (zt_7 (k := 11) rfl rfl) (zt_7 (k := 12) rfl rfl) (by decide +kernel))
set_option maxRecDepth 20000 in
theorem zi_ok233 : zi_okM zi_m233 = true := zi_okM_of (show zi_i233.all _ = true from zi_all_app zi_ok233_0 (zi_all_app zi_ok233_1 (zi_all_app zi_ok233_2 (zi_ok233_3)))) (zi_okW0 rfl (by decide) (zt_7 (k := 17) rfl rfl) (zt_1 (k := 10) rfl rfl) (by decide) (zt_7 (k := 15) rfl rfl) (zt_7 (k := 16) rfl rfl) (by decide +kernel))
set_option maxRecDepth 20000 in
theorem zi_ok234 : zi_okM zi_m234 = true := zi_okM_of (show zi_i234.all _ = true from zi_all_app zi_ok234_0 (zi_ok234_1)) (zi_okW1 rfl (by decide) (by decide) (zt_7 (k := 24) rfl rfl) (zt_1 (k := 10) rfl rfl) (by decide) (zt_7 (k := 23) rfl rfl) (by decide +kernel))
set_option maxRecDepth 20000 in
theorem zi_ok235 : zi_okM zi_m235 = true := zi_okM_of (show zi_i235.all _ = true from zi_all_app zi_ok235_0 (zi_all_app zi_ok235_1 (zi_all_app zi_ok235_2 (zi_ok235_3)))) (zi_okW0 rfl (by decide) (zt_7 (k := 21) rfl rfl) (zt_1 (k := 10) rfl rfl) (by decide) (zt_7 (k := 19) rfl rfl) (zt_7 (k := 20) rfl rfl) (by decide +kernel))
set_option maxRecDepth 20000 in
theorem zi_ok236 : zi_okM zi_m236 = true := zi_okM_of (show zi_i236.all _ = true from zi_all_app zi_ok236_0 (zi_all_app zi_ok236_1 (zi_all_app zi_ok236_2 (zi_all_app zi_ok236_3 (zi_ok236_4))))) (zi_okW0 rfl (by decide) (zt_7 (k := 29) rfl rfl) (zt_1 (k := 10) rfl rfl) (by decide) (zt_7 (k := 27) rfl rfl) (zt_7 (k := 28) rfl rfl) (by decide +kernel))
set_option maxRecDepth 20000 in
theorem zi_ok237 : zi_okM zi_m237 = true := zi_okM_of (show zi_i237.all _ = true from zi_all_app zi_ok237_0 (zi_all_app zi_ok237_1 (zi_all_app zi_ok237_2 (zi_all_app zi_ok237_3 (zi_all_app zi_ok237_4 (zi_all_app zi_ok237_5 (zi_all_app zi_ok237_6 (zi_all_app zi_ok237_7 (zi_all_app zi_ok237_8 (zi_ok237_9)))))))))) (zi_okW0 rfl (by decide) (zt_7 (k := 33) rfl rfl) (zt_1 (k := 10) rfl rfl) (by decide) (zt_7 (k := 31) rfl rfl) (zt_7 (k := 32) rfl rfl) (by decide +kernel))
set_option maxRecDepth 20000 in
theorem zi_ok238 : zi_okM zi_m238 = true := zi_okM_of (show zi_i238.all _ = true from zi_ok238_0) (zi_okW0 rfl (by decide) (zt_7 (k := 38) rfl rfl) (zt_1 (k := 10) rfl rfl) (by decide) (zt_7 (k := 36) rfl rfl) (zt_7 (k := 37) rfl rfl) (by decide +kernel))
set_option maxRecDepth 20000 in
theorem zi_ok239 : zi_okM zi_m239 = true := zi_okM_of (show zi_i239.all _ = true from zi_all_app zi_ok239_0 (zi_all_app zi_ok239_1 (zi_ok239_2))) (zi_okW0 rfl (by decide) (zt_7 (k := 46) rfl rfl) (zt_1 (k := 10) rfl rfl) (by decide) (zt_7 (k := 45) rfl rfl) (zt_0 (k := 90) rfl) (by decide +kernel))
set_option maxRecDepth 20000 in
theorem zi_ok240 : zi_okM zi_m240 = true := zi_okM_of (show zi_i240.all _ = true from zi_all_app zi_ok240_0 (zi_all_app zi_ok240_1 (zi_all_app zi_ok240_2 (zi_ok240_3)))) (zi_okW0 rfl (by decide) (zt_7 (k := 42) rfl rfl) (zt_1 (k := 10) rfl rfl) (by decide) (zt_7 (k := 40) rfl rfl) (zt_7 (k := 41) rfl rfl) (by decide +kernel))
set_option maxRecDepth 20000 in
theorem zi_ok241 : zi_okM zi_m241 = true := zi_okM_of (show zi_i241.all _ = true from zi_all_app zi_ok241_0 (zi_ok241_1)) (zi_okW1 rfl (by decide) (by decide) (zt_1 (k := 107) rfl rfl) (zt_1 (k := 5) rfl rfl) (by decide) (zt_1 (k := 106) rfl rfl) (by decide +kernel))
set_option maxRecDepth 20000 in
theorem zi_ok242 : zi_okM zi_m242 = true := zi_okM_of (show zi_i242.all _ = true from zi_all_app zi_ok242_0 (zi_all_app zi_ok242_1 (zi_all_app zi_ok242_2 (zi_ok242_3)))) (zi_okW1 rfl (by decide) (by decide) (zt_4 (k := 74) rfl rfl) (zt_1 (k := 17) rfl rfl) (by decide) (zt_4 (k := 73) rfl rfl) (by decide +kernel))
set_option maxRecDepth 20000 in
theorem zi_ok243 : zi_okM zi_m243 = true := zi_okM_of (show zi_i243.all _ = true from zi_all_app zi_ok243_0 (zi_all_app zi_ok243_1 (zi_all_app zi_ok243_2 (zi_all_app zi_ok243_3 (zi_all_app zi_ok243_4 (zi_all_app zi_ok243_5 (zi_all_app zi_ok243_6 (zi_all_app zi_ok243_7 (zi_all_app zi_ok243_8 (zi_all_app zi_ok243_9 (zi_all_app zi_ok243_10 (zi_all_app zi_ok243_11 (zi_all_app zi_ok243_12 (zi_all_app zi_ok243_13 (zi_all_app zi_ok243_14 (zi_all_app zi_ok243_15 (zi_all_app zi_ok243_16 (zi_all_app zi_ok243_17 (zi_all_app zi_ok243_18 (zi_all_app zi_ok243_19 (zi_all_app zi_ok243_20 (zi_all_app zi_ok243_21 (zi_all_app zi_ok243_22 (zi_all_app zi_ok243_23 (zi_all_app zi_ok243_24 (zi_all_app zi_ok243_25 (zi_all_app zi_ok243_26 (zi_all_app zi_ok243_27 (zi_all_app zi_ok243_28 (zi_all_app zi_ok243_29 (zi_all_app zi_ok243_30 (zi_all_app zi_ok243_31 (zi_all_app zi_ok243_32 (zi_all_app zi_ok243_33 (zi_all_app zi_ok243_34 (zi_all_app zi_ok243_35 (zi_all_app zi_ok243_36 (zi_all_app zi_ok243_37 (zi_all_app zi_ok243_38 (zi_all_app zi_ok243_39 (zi_all_app zi_ok243_40 (zi_all_app zi_ok243_41 (zi_all_app zi_ok243_42 (zi_all_app zi_ok243_43 (zi_all_app zi_ok243_44 (zi_all_app zi_ok243_45 (zi_all_app zi_ok243_46 (zi_all_app zi_ok243_47 (zi_all_app zi_ok243_48 (zi_all_app zi_ok243_49 (zi_all_app zi_ok243_50 (zi_all_app zi_ok243_51 (zi_all_app zi_ok243_52 (zi_all_app zi_ok243_53 (zi_all_app zi_ok243_54 (zi_ok243_55)))))))))))))))))))))))))))))))))))))))))))))))))))))))) (by decide +kernel)
theorem zi_okG0 : ∀ mi ∈ zi_M0, zi_okM mi = true := List.forall_mem_cons.mpr ⟨zi_ok0, List.forall_mem_cons.mpr ⟨zi_ok1, List.forall_mem_cons.mpr ⟨zi_ok2, List.forall_mem_cons.mpr ⟨zi_ok3, List.forall_mem_cons.mpr ⟨zi_ok4, List.forall_mem_cons.mpr ⟨zi_ok5, List.forall_mem_cons.mpr ⟨zi_ok6, List.forall_mem_cons.mpr ⟨zi_ok7, List.forall_mem_cons.mpr ⟨zi_ok8, List.forall_mem_cons.mpr ⟨zi_ok9, List.forall_mem_cons.mpr ⟨zi_ok10, List.forall_mem_cons.mpr ⟨zi_ok11, List.forall_mem_cons.mpr ⟨zi_ok12, List.forall_mem_cons.mpr ⟨zi_ok13, List.forall_mem_cons.mpr ⟨zi_ok14, List.forall_mem_cons.mpr ⟨zi_ok15, fun _ h => absurd h List.not_mem_nil⟩⟩⟩⟩⟩⟩⟩⟩⟩⟩⟩⟩⟩⟩⟩⟩
theorem zi_okG1 : ∀ mi ∈ zi_M1, zi_okM mi = true := List.forall_mem_cons.mpr ⟨zi_ok16, List.forall_mem_cons.mpr ⟨zi_ok17, List.forall_mem_cons.mpr ⟨zi_ok18, List.forall_mem_cons.mpr ⟨zi_ok19, List.forall_mem_cons.mpr ⟨zi_ok20, List.forall_mem_cons.mpr ⟨zi_ok21, List.forall_mem_cons.mpr ⟨zi_ok22, List.forall_mem_cons.mpr ⟨zi_ok23, List.forall_mem_cons.mpr ⟨zi_ok24, List.forall_mem_cons.mpr ⟨zi_ok25, List.forall_mem_cons.mpr ⟨zi_ok26, List.forall_mem_cons.mpr ⟨zi_ok27, List.forall_mem_cons.mpr ⟨zi_ok28, List.forall_mem_cons.mpr ⟨zi_ok29, List.forall_mem_cons.mpr ⟨zi_ok30, List.forall_mem_cons.mpr ⟨zi_ok31, fun _ h => absurd h List.not_mem_nil⟩⟩⟩⟩⟩⟩⟩⟩⟩⟩⟩⟩⟩⟩⟩⟩
theorem zi_okG2 : ∀ mi ∈ zi_M2, zi_okM mi = true := List.forall_mem_cons.mpr ⟨zi_ok32, List.forall_mem_cons.mpr ⟨zi_ok33, List.forall_mem_cons.mpr ⟨zi_ok34, List.forall_mem_cons.mpr ⟨zi_ok35, List.forall_mem_cons.mpr ⟨zi_ok36, List.forall_mem_cons.mpr ⟨zi_ok37, List.forall_mem_cons.mpr ⟨zi_ok38, List.forall_mem_cons.mpr ⟨zi_ok39, List.forall_mem_cons.mpr ⟨zi_ok40, List.forall_mem_cons.mpr ⟨zi_ok41, List.forall_mem_cons.mpr ⟨zi_ok42, List.forall_mem_cons.mpr ⟨zi_ok43, List.forall_mem_cons.mpr ⟨zi_ok44, List.forall_mem_cons.mpr ⟨zi_ok45, List.forall_mem_cons.mpr ⟨zi_ok46, List.forall_mem_cons.mpr ⟨zi_ok47, fun _ h => absurd h List.not_mem_nil⟩⟩⟩⟩⟩⟩⟩⟩⟩⟩⟩⟩⟩⟩⟩⟩
theorem zi_okG3 : ∀ mi ∈ zi_M3, zi_okM mi = true := List.forall_mem_cons.mpr ⟨zi_ok48, List.forall_mem_cons.mpr ⟨zi_ok49, List.forall_mem_cons.mpr ⟨zi_ok50, List.forall_mem_cons.mpr ⟨zi_ok51, List.forall_mem_cons.mpr ⟨zi_ok52, List.forall_mem_cons.mpr ⟨zi_ok53, List.forall_mem_cons.mpr ⟨zi_ok54, List.forall_mem_cons.mpr ⟨zi_ok55, List.forall_mem_cons.mpr ⟨zi_ok56, List.forall_mem_cons.mpr ⟨zi_ok57, List.forall_mem_cons.mpr ⟨zi_ok58, List.forall_mem_cons.mpr ⟨zi_ok59, List.forall_mem_cons.mpr ⟨zi_ok60, List.forall_mem_cons.mpr ⟨zi_ok61, List.forall_mem_cons.mpr ⟨zi_ok62, List.forall_mem_cons.mpr ⟨zi_ok63, fun _ h => absurd h List.not_mem_nil⟩⟩⟩⟩⟩⟩⟩⟩⟩⟩⟩⟩⟩⟩⟩⟩
theorem zi_okG4 : ∀ mi ∈ zi_M4, zi_okM mi = true := List.forall_mem_cons.mpr ⟨zi_ok64, List.forall_mem_cons.mpr ⟨zi_ok65, List.forall_mem_cons.mpr ⟨zi_ok66, List.forall_mem_cons.mpr ⟨zi_ok67, List.forall_mem_cons.mpr ⟨zi_ok68, List.forall_mem_cons.mpr ⟨zi_ok69, List.forall_mem_cons.mpr ⟨zi_ok70, List.forall_mem_cons.mpr ⟨zi_ok71, List.forall_mem_cons.mpr ⟨zi_ok72, List.forall_mem_cons.mpr ⟨zi_ok73, List.forall_mem_cons.mpr ⟨zi_ok74, List.forall_mem_cons.mpr ⟨zi_ok75, List.forall_mem_cons.mpr ⟨zi_ok76, List.forall_mem_cons.mpr ⟨zi_ok77, List.forall_mem_cons.mpr ⟨zi_ok78, List.forall_mem_cons.mpr ⟨zi_ok79, fun _ h => absurd h List.not_mem_nil⟩⟩⟩⟩⟩⟩⟩⟩⟩⟩⟩⟩⟩⟩⟩⟩
theorem zi_okG5 : ∀ mi ∈ zi_M5, zi_okM mi = true := List.forall_mem_cons.mpr ⟨zi_ok80, List.forall_mem_cons.mpr ⟨zi_ok81, List.forall_mem_cons.mpr ⟨zi_ok82, List.forall_mem_cons.mpr ⟨zi_ok83, List.forall_mem_cons.mpr ⟨zi_ok84, List.forall_mem_cons.mpr ⟨zi_ok85, List.forall_mem_cons.mpr ⟨zi_ok86, List.forall_mem_cons.mpr ⟨zi_ok87, List.forall_mem_cons.mpr ⟨zi_ok88, List.forall_mem_cons.mpr ⟨zi_ok89, List.forall_mem_cons.mpr ⟨zi_ok90, List.forall_mem_cons.mpr ⟨zi_ok91, List.forall_mem_cons.mpr ⟨zi_ok92, List.forall_mem_cons.mpr ⟨zi_ok93, List.forall_mem_cons.mpr ⟨zi_ok94, List.forall_mem_cons.mpr ⟨zi_ok95, fun _ h => absurd h List.not_mem_nil⟩⟩⟩⟩⟩⟩⟩⟩⟩⟩⟩⟩⟩⟩⟩⟩
theorem zi_okG6 : ∀ mi ∈ zi_M6, zi_okM mi = true := List.forall_mem_cons.mpr ⟨zi_ok96, List.forall_mem_cons.mpr ⟨zi_ok97, List.forall_mem_cons.mpr ⟨zi_ok98, List.forall_mem_cons.mpr ⟨zi_ok99, List.forall_mem_cons.mpr ⟨zi_ok100, List.forall_mem_cons.mpr ⟨zi_ok101, List.forall_mem_cons.mpr ⟨zi_ok102, List.forall_mem_cons.mpr ⟨zi_ok103, List.forall_mem_cons.mpr ⟨zi_ok104, List.forall_mem_cons.mpr ⟨zi_ok105, List.forall_mem_cons.mpr ⟨zi_ok106, List.forall_mem_cons.mpr ⟨zi_ok107, List.forall_mem_cons.mpr ⟨zi_ok108, List.forall_mem_cons.mpr ⟨zi_ok109, List.forall_mem_cons.mpr ⟨zi_ok110, List.forall_mem_cons.mpr ⟨zi_ok111, fun _ h => absurd h List.not_mem_nil⟩⟩⟩⟩⟩⟩⟩⟩⟩⟩⟩⟩⟩⟩⟩⟩
theorem zi_okG7 : ∀ mi ∈ zi_M7, zi_okM mi = true := List.forall_mem_cons.mpr ⟨zi_ok112, List.forall_mem_cons.mpr ⟨zi_ok113, List.forall_mem_cons.mpr ⟨zi_ok114, List.forall_mem_cons.mpr ⟨zi_ok115, List.forall_mem_cons.mpr ⟨zi_ok116, List.forall_mem_cons.mpr ⟨zi_ok117, List.forall_mem_cons.mpr ⟨zi_ok118, List.forall_mem_cons.mpr ⟨zi_ok119, List.forall_mem_cons.mpr ⟨zi_ok120, List.forall_mem_cons.mpr ⟨zi_ok121, List.forall_mem_cons.mpr ⟨zi_ok122, List.forall_mem_cons.mpr ⟨zi_ok123, List.forall_mem_cons.mpr ⟨zi_ok124, List.forall_mem_cons.mpr ⟨zi_ok125, List.forall_mem_cons.mpr ⟨zi_ok126, List.forall_mem_cons.mpr ⟨zi_ok127, fun _ h => absurd h List.not_mem_nil⟩⟩⟩⟩⟩⟩⟩⟩⟩⟩⟩⟩⟩⟩⟩⟩
theorem zi_okG8 : ∀ mi ∈ zi_M8, zi_okM mi = true := List.forall_mem_cons.mpr ⟨zi_ok128, List.forall_mem_cons.mpr ⟨zi_ok129, List.forall_mem_cons.mpr ⟨zi_ok130, List.forall_mem_cons.mpr ⟨zi_ok131, List.forall_mem_cons.mpr ⟨zi_ok132, List.forall_mem_cons.mpr ⟨zi_ok133, List.forall_mem_cons.mpr ⟨zi_ok134, List.forall_mem_cons.mpr ⟨zi_ok135, List.forall_mem_cons.mpr ⟨zi_ok136, List.forall_mem_cons.mpr ⟨zi_ok137, List.forall_mem_cons.mpr ⟨zi_ok138, List.forall_mem_cons.mpr ⟨zi_ok139, List.forall_mem_cons.mpr ⟨zi_ok140, List.forall_mem_cons.mpr ⟨zi_ok141, List.forall_mem_cons.mpr ⟨zi_ok142, List.forall_mem_cons.mpr ⟨zi_ok143, fun _ h => absurd h List.not_mem_nil⟩⟩⟩⟩⟩⟩⟩⟩⟩⟩⟩⟩⟩⟩⟩⟩
theorem zi_okG9 : ∀ mi ∈ zi_M9, zi_okM mi = true := List.forall_mem_cons.mpr ⟨zi_ok144, List.forall_mem_cons.mpr ⟨zi_ok145, List.forall_mem_cons.mpr ⟨zi_ok146, List.forall_mem_cons.mpr ⟨zi_ok147, List.forall_mem_cons.mpr ⟨zi_ok148, List.forall_mem_cons.mpr ⟨zi_ok149, List.forall_mem_cons.mpr ⟨zi_ok150, List.forall_mem_cons.mpr ⟨zi_ok151, List.forall_mem_cons.mpr ⟨zi_ok152, List.forall_mem_cons.mpr ⟨zi_ok153, List.forall_mem_cons.mpr ⟨zi_ok154, List.forall_mem_cons.mpr ⟨zi_ok155, List.forall_mem_cons.mpr ⟨zi_ok156, List.forall_mem_cons.mpr ⟨zi_ok157, List.forall_mem_cons.mpr ⟨zi_ok158, List.forall_mem_cons.mpr ⟨zi_ok159, fun _ h => absurd h List.not_mem_nil⟩⟩⟩⟩⟩⟩⟩⟩⟩⟩⟩⟩⟩⟩⟩⟩
theorem zi_okG10 : ∀ mi ∈ zi_M10, zi_okM mi = true := List.forall_mem_cons.mpr ⟨zi_ok160, List.forall_mem_cons.mpr ⟨zi_ok161, List.forall_mem_cons.mpr ⟨zi_ok162, List.forall_mem_cons.mpr ⟨zi_ok163, List.forall_mem_cons.mpr ⟨zi_ok164, List.forall_mem_cons.mpr ⟨zi_ok165, List.forall_mem_cons.mpr ⟨zi_ok166, List.forall_mem_cons.mpr ⟨zi_ok167, List.forall_mem_cons.mpr ⟨zi_ok168, List.forall_mem_cons.mpr ⟨zi_ok169, List.forall_mem_cons.mpr ⟨zi_ok170, List.forall_mem_cons.mpr ⟨zi_ok171, List.forall_mem_cons.mpr ⟨zi_ok172, List.forall_mem_cons.mpr ⟨zi_ok173, List.forall_mem_cons.mpr ⟨zi_ok174, List.forall_mem_cons.mpr ⟨zi_ok175, fun _ h => absurd h List.not_mem_nil⟩⟩⟩⟩⟩⟩⟩⟩⟩⟩⟩⟩⟩⟩⟩⟩
theorem zi_okG11 : ∀ mi ∈ zi_M11, zi_okM mi = true := List.forall_mem_cons.mpr ⟨zi_ok176, List.forall_mem_cons.mpr ⟨zi_ok177, List.forall_mem_cons.mpr ⟨zi_ok178, List.forall_mem_cons.mpr ⟨zi_ok179, List.forall_mem_cons.mpr ⟨zi_ok180, List.forall_mem_cons.mpr ⟨zi_ok181, List.forall_mem_cons.mpr ⟨zi_ok182, List.forall_mem_cons.mpr ⟨zi_ok183, List.forall_mem_cons.mpr ⟨zi_ok184, List.forall_mem_cons.mpr ⟨zi_ok185, List.forall_mem_cons.mpr ⟨zi_ok186, List.forall_mem_cons.mpr ⟨zi_ok187, List.forall_mem_cons.mpr ⟨zi_ok188, List.forall_mem_cons.mpr ⟨zi_ok189, List.forall_mem_cons.mpr ⟨zi_ok190, List.forall_mem_cons.mpr ⟨zi_ok191, fun _ h => absurd h List.not_mem_nil⟩⟩⟩⟩⟩⟩⟩⟩⟩⟩⟩⟩⟩⟩⟩⟩
theorem zi_okG12 : ∀ mi ∈ zi_M12, zi_okM mi = true := List.forall_mem_cons.mpr ⟨zi_ok192, List.forall_mem_cons.mpr ⟨zi_ok193, List.forall_mem_cons.mpr ⟨zi_ok194, List.forall_mem_cons.mpr ⟨zi_ok195, List.forall_mem_cons.mpr ⟨zi_ok196, List.forall_mem_cons.mpr ⟨zi_ok197, List.forall_mem_cons.mpr ⟨zi_ok198, List.forall_mem_cons.mpr ⟨zi_ok199, List.forall_mem_cons.mpr ⟨zi_ok200, List.forall_mem_cons.mpr ⟨zi_ok201, List.forall_mem_cons.mpr ⟨zi_ok202, List.forall_mem_cons.mpr ⟨zi_ok203, List.forall_mem_cons.mpr ⟨zi_ok204, List.forall_mem_cons.mpr ⟨zi_ok205, List.forall_mem_cons.mpr ⟨zi_ok206, List.forall_mem_cons.mpr ⟨zi_ok207, fun _ h => absurd h List.not_mem_nil⟩⟩⟩⟩⟩⟩⟩⟩⟩⟩⟩⟩⟩⟩⟩⟩
theorem zi_okG13 : ∀ mi ∈ zi_M13, zi_okM mi = true := List.forall_mem_cons.mpr ⟨zi_ok208, List.forall_mem_cons.mpr ⟨zi_ok209, List.forall_mem_cons.mpr ⟨zi_ok210, List.forall_mem_cons.mpr ⟨zi_ok211, List.forall_mem_cons.mpr ⟨zi_ok212, List.forall_mem_cons.mpr ⟨zi_ok213, List.forall_mem_cons.mpr ⟨zi_ok214, List.forall_mem_cons.mpr ⟨zi_ok215, List.forall_mem_cons.mpr ⟨zi_ok216, List.forall_mem_cons.mpr ⟨zi_ok217, List.forall_mem_cons.mpr ⟨zi_ok218, List.forall_mem_cons.mpr ⟨zi_ok219, List.forall_mem_cons.mpr ⟨zi_ok220, List.forall_mem_cons.mpr ⟨zi_ok221, List.forall_mem_cons.mpr ⟨zi_ok222, List.forall_mem_cons.mpr ⟨zi_ok223, fun _ h => absurd h List.not_mem_nil⟩⟩⟩⟩⟩⟩⟩⟩⟩⟩⟩⟩⟩⟩⟩⟩
theorem zi_okG14 : ∀ mi ∈ zi_M14, zi_okM mi = true := List.forall_mem_cons.mpr ⟨zi_ok224, List.forall_mem_cons.mpr ⟨zi_ok225, List.forall_mem_cons.mpr ⟨zi_ok226, List.forall_mem_cons.mpr ⟨zi_ok227, List.forall_mem_cons.mpr ⟨zi_ok228, List.forall_mem_cons.mpr ⟨zi_ok229, List.forall_mem_cons.mpr ⟨zi_ok230, List.forall_mem_cons.mpr ⟨zi_ok231, List.forall_mem_cons.mpr ⟨zi_ok232, List.forall_mem_cons.mpr ⟨zi_ok233, List.forall_mem_cons.mpr ⟨zi_ok234, List.forall_mem_cons.mpr ⟨zi_ok235, List.forall_mem_cons.mpr ⟨zi_ok236, List.forall_mem_cons.mpr ⟨zi_ok237, List.forall_mem_cons.mpr ⟨zi_ok238, List.forall_mem_cons.mpr ⟨zi_ok239, fun _ h => absurd h List.not_mem_nil⟩⟩⟩⟩⟩⟩⟩⟩⟩⟩⟩⟩⟩⟩⟩⟩
theorem zi_okG15 : ∀ mi ∈ zi_M15, zi_okM mi = true := List.forall_mem_cons.mpr ⟨zi_ok240, List.forall_mem_cons.mpr ⟨zi_ok241, List.forall_mem_cons.mpr ⟨zi_ok242, List.forall_mem_cons.mpr ⟨zi_ok243, fun _ h => absurd h List.not_mem_nil⟩⟩⟩⟩
theorem zi_okA : ∀ mi ∈ zi_M, zi_okM mi = true := by
  show ∀ mi ∈ zi_M0 ++ (zi_M1 ++ (zi_M2 ++ (zi_M3 ++ (zi_M4 ++ (zi_M5 ++ (zi_M6 ++ (zi_M7 ++ (zi_M8 ++ (zi_M9 ++ (zi_M10 ++ (zi_M11 ++ (zi_M12 ++ (zi_M13 ++ (zi_M14 ++ (zi_M15))))))))))))))), zi_okM mi = true
  exact List.forall_mem_append.mpr ⟨zi_okG0, List.forall_mem_append.mpr ⟨zi_okG1, List.forall_mem_append.mpr ⟨zi_okG2, List.forall_mem_append.mpr ⟨zi_okG3, List.forall_mem_append.mpr ⟨zi_okG4, List.forall_mem_append.mpr ⟨zi_okG5, List.forall_mem_append.mpr ⟨zi_okG6, List.forall_mem_append.mpr ⟨zi_okG7, List.forall_mem_append.mpr ⟨zi_okG8, List.forall_mem_append.mpr ⟨zi_okG9, List.forall_mem_append.mpr ⟨zi_okG10, List.forall_mem_append.mpr ⟨zi_okG11, List.forall_mem_append.mpr ⟨zi_okG12, List.forall_mem_append.mpr ⟨zi_okG13, List.forall_mem_append.mpr ⟨zi_okG14, zi_okG15⟩⟩⟩⟩⟩⟩⟩⟩⟩⟩⟩⟩⟩⟩⟩
