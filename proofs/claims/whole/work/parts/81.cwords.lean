/-! MAKING: words, codes, empty objects. -/
abbrev dX0 : List Value := [.null, .null, .int 0, .int 0]
theorem dX0_ok : ∀ j, j < 4 → defaultValue (tyX0 j) = vp_V dX0 j := by decide +kernel
abbrev dX1 : List Value := [.null, .null, .null]
theorem dX1_ok : ∀ j, j < 3 → defaultValue (tyX1 j) = vp_V dX1 j := by decide +kernel
abbrev dX2 : List Value := [.null, .null, .int 0]
theorem dX2_ok : ∀ j, j < 3 → defaultValue (tyX2 j) = vp_V dX2 j := by decide +kernel
abbrev dX3 : List Value := [.int 0, .int 0, .int 0, .int 0, .int 0, .int 0, .int 0]
theorem dX3_ok : ∀ j, j < 7 → defaultValue (tyX3 j) = vp_V dX3 j := by decide +kernel
abbrev dX4 : List Value := [.null, .int 0]
theorem dX4_ok : ∀ j, j < 2 → defaultValue (tyX4 j) = vp_V dX4 j := by decide +kernel
abbrev dX5 : List Value := [.null, .int 0]
theorem dX5_ok : ∀ j, j < 2 → defaultValue (tyX5 j) = vp_V dX5 j := by decide +kernel
abbrev dX6 : List Value := [.null, .null, .null, .null, .null, .int 0]
theorem dX6_ok : ∀ j, j < 6 → defaultValue (tyX6 j) = vp_V dX6 j := by decide +kernel
abbrev dX7 : List Value := [.null, .int 0, .int 0, .int 0, .int 0, .null, .int 0, .null, .null, .null, .null, .null, .int 0, .null, .null]
theorem dX7_ok : ∀ j, j < 15 → defaultValue (tyX7 j) = vp_V dX7 j := by decide +kernel
abbrev dX8 : List Value := [.null, .int 0, .int 0, .int 0, .int 0]
theorem dX8_ok : ∀ j, j < 5 → defaultValue (tyX8 j) = vp_V dX8 j := by decide +kernel
abbrev dX9 : List Value := [.null, .null, .int 0, .null, .null, .null, .null, .null, .null]
theorem dX9_ok : ∀ j, j < 9 → defaultValue (tyX9 j) = vp_V dX9 j := by decide +kernel
abbrev dX10 : List Value := [.null, .null, .null, .int 0, .null, .int 0, .int 0, .int 0, .int 0, .null, .null, .null, .null, .null, .null, .int 0, .int 0, .null, .null, .int 0, .int 0, .int 0, .null, .null, .null, .null]
theorem dX10_ok : ∀ j, j < 26 → defaultValue (tyX10 j) = vp_V dX10 j := by decide +kernel
theorem c_ws {Qf : Array Value → State → Outcome → State → Prop} {l : Launch} {G : Gx} {R : Room} {b : ByteArray} {own : String} {maxL sz : Nat} {A : Nat → Prop} {pc : Nat} {lv : List (Nat × Value)} {st : List Value} {ws ws' : va_W} {cells slots : Nat} (h : ws = ws') (kk : SC Qf l G R b own maxL sz A pc lv st ws' cells slots) : SC Qf l G R b own maxL sz A pc lv st ws cells slots := h ▸ kk
theorem cw_63 : gw (.initialized RX5) := ⟨List.mem_of_getElem? (i := 63) (by decide +kernel), rfl⟩
theorem cw_64 : gw (.initialized RJ9) := ⟨List.mem_of_getElem? (i := 64) (by decide +kernel), rfl⟩
theorem cw_84 : gw (.instanceMethod Lib.objectInit) := ⟨List.mem_of_getElem? (i := 84) (by decide +kernel), rfl⟩
theorem cw_85 : gw (.code Lib.objectInit ⟨#[0xb1]⟩ 1 none) := ⟨List.mem_of_getElem? (i := 85) (by decide +kernel), rfl⟩
theorem cw_101 : gw (.methodLink RX1 3 Lib.objectInit) := ⟨List.mem_of_getElem? (i := 101) (by decide +kernel), rfl⟩
theorem cw_102 : gw (.classLink RX1 9 RX5) := ⟨List.mem_of_getElem? (i := 102) (by decide +kernel), rfl⟩
theorem cw_103 : gw (.instantiable RX5 2) := ⟨List.mem_of_getElem? (i := 103) (by decide +kernel), rfl⟩
theorem cw_104 : gw (.methodLink RX1 11 yX5_init) := ⟨List.mem_of_getElem? (i := 104) (by decide +kernel), rfl⟩
theorem cw_105 : gw (.instanceMethod yX5_init) := ⟨List.mem_of_getElem? (i := 105) (by decide +kernel), rfl⟩
theorem cw_106 : gw (.code yX5_init cX5_init 2 none) := ⟨List.mem_of_getElem? (i := 106) (by decide +kernel), rfl⟩
theorem cw_107 : gw (.methodLink RX5 1 Lib.objectInit) := ⟨List.mem_of_getElem? (i := 107) (by decide +kernel), rfl⟩
theorem cw_108 : gw (.methodLink RX5 7 Lib.Math.max.name) := ⟨List.mem_of_getElem? (i := 108) (by decide +kernel), rfl⟩
theorem cw_109 : gw (.static Lib.Math.max.name) := ⟨List.mem_of_getElem? (i := 109) (by decide +kernel), rfl⟩
theorem cw_110 : gw (.code Lib.Math.max.name Lib.Math.max.code 2 (some .int)) := ⟨List.mem_of_getElem? (i := 110) (by decide +kernel), rfl⟩
theorem cw_111 : gw (.fieldLink RX5 13 RX5 (TX5 0).2.1 (TX5 0).2.2.1) := ⟨List.mem_of_getElem? (i := 111) (by decide +kernel), rfl⟩
theorem cw_125 : gw (.arrayClass .int) := ⟨List.mem_of_getElem? (i := 125) (by decide +kernel), rfl⟩
theorem cw_126 : gw (.fieldLink RX1 14 RX1 (TX1 0).2.1 (TX1 0).2.2.1) := ⟨List.mem_of_getElem? (i := 126) (by decide +kernel), rfl⟩
theorem cw_129 : gw (.fieldLink RX1 20 RX1 (TX1 1).2.1 (TX1 1).2.2.1) := ⟨List.mem_of_getElem? (i := 129) (by decide +kernel), rfl⟩
theorem cw_130 : gw (.fieldLink RX1 24 RX1 (TX1 2).2.1 (TX1 2).2.2.1) := ⟨List.mem_of_getElem? (i := 130) (by decide +kernel), rfl⟩
theorem cw_143 : gw (.methodLink RX3 3 Lib.objectInit) := ⟨List.mem_of_getElem? (i := 143) (by decide +kernel), rfl⟩
theorem cw_158 : gw (.fieldLink RX3 9 RX3 (TX3 5).2.1 (TX3 5).2.2.1) := ⟨List.mem_of_getElem? (i := 158) (by decide +kernel), rfl⟩
theorem cw_268 : gw (.methodLink RX6 3 Lib.objectInit) := ⟨List.mem_of_getElem? (i := 268) (by decide +kernel), rfl⟩
theorem cw_269 : gw (.classLink RX6 9 RX5) := ⟨List.mem_of_getElem? (i := 269) (by decide +kernel), rfl⟩
theorem cw_270 : gw (.methodLink RX6 11 yX5_init) := ⟨List.mem_of_getElem? (i := 270) (by decide +kernel), rfl⟩
theorem cw_271 : gw (.fieldLink RX6 26 RX6 (TX6 0).2.1 (TX6 0).2.2.1) := ⟨List.mem_of_getElem? (i := 271) (by decide +kernel), rfl⟩
theorem cw_272 : gw (.fieldLink RX6 30 RX6 (TX6 1).2.1 (TX6 1).2.2.1) := ⟨List.mem_of_getElem? (i := 272) (by decide +kernel), rfl⟩
theorem cw_273 : gw (.fieldLink RX6 14 RX6 (TX6 2).2.1 (TX6 2).2.2.1) := ⟨List.mem_of_getElem? (i := 273) (by decide +kernel), rfl⟩
theorem cw_274 : gw (.fieldLink RX6 20 RX6 (TX6 3).2.1 (TX6 3).2.2.1) := ⟨List.mem_of_getElem? (i := 274) (by decide +kernel), rfl⟩
theorem cw_275 : gw (.fieldLink RX6 23 RX6 (TX6 4).2.1 (TX6 4).2.2.1) := ⟨List.mem_of_getElem? (i := 275) (by decide +kernel), rfl⟩
theorem cw_297 : gw (.methodLink RX2 3 Lib.objectInit) := ⟨List.mem_of_getElem? (i := 297) (by decide +kernel), rfl⟩
theorem cw_298 : gw (.classLink RX2 9 RX5) := ⟨List.mem_of_getElem? (i := 298) (by decide +kernel), rfl⟩
theorem cw_299 : gw (.methodLink RX2 11 yX5_init) := ⟨List.mem_of_getElem? (i := 299) (by decide +kernel), rfl⟩
theorem cw_300 : gw (.fieldLink RX2 20 RX2 (TX2 0).2.1 (TX2 0).2.2.1) := ⟨List.mem_of_getElem? (i := 300) (by decide +kernel), rfl⟩
theorem cw_301 : gw (.fieldLink RX2 14 RX2 (TX2 1).2.1 (TX2 1).2.2.1) := ⟨List.mem_of_getElem? (i := 301) (by decide +kernel), rfl⟩
theorem cw_316 : gw (.methodLink RX8 3 Lib.objectInit) := ⟨List.mem_of_getElem? (i := 316) (by decide +kernel), rfl⟩
theorem cw_317 : gw (.classLink RX8 9 RX5) := ⟨List.mem_of_getElem? (i := 317) (by decide +kernel), rfl⟩
theorem cw_318 : gw (.methodLink RX8 13 yX5_init) := ⟨List.mem_of_getElem? (i := 318) (by decide +kernel), rfl⟩
theorem cw_319 : gw (.fieldLink RX8 16 RX8 (TX8 0).2.1 (TX8 0).2.2.1) := ⟨List.mem_of_getElem? (i := 319) (by decide +kernel), rfl⟩
theorem cw_343 : gw (.methodLink RX4 3 Lib.objectInit) := ⟨List.mem_of_getElem? (i := 343) (by decide +kernel), rfl⟩
theorem cw_344 : gw (.classLink RX4 9 RX5) := ⟨List.mem_of_getElem? (i := 344) (by decide +kernel), rfl⟩
theorem cw_345 : gw (.methodLink RX4 11 yX5_init) := ⟨List.mem_of_getElem? (i := 345) (by decide +kernel), rfl⟩
theorem cw_346 : gw (.fieldLink RX4 14 RX4 (TX4 0).2.1 (TX4 0).2.2.1) := ⟨List.mem_of_getElem? (i := 346) (by decide +kernel), rfl⟩
theorem oki_X5_init : okI yX5_init cX5_init 2 1 := ⟨cw_106, cw_63, cw_105, rfl, by decide +kernel, rfl⟩
theorem cdX5_init_0 : decode cX5_init 0 = .ok (.aload_n 0, 1) := by decide +kernel
theorem cdX5_init_1 : decode cX5_init 1 = .ok (.invokespecial 1, 3) := by decide +kernel
theorem cdX5_init_4 : decode cX5_init 4 = .ok (.aload_n 0, 1) := by decide +kernel
theorem cdX5_init_5 : decode cX5_init 5 = .ok (.iload_n 1, 1) := by decide +kernel
theorem cdX5_init_6 : decode cX5_init 6 = .ok (.iconst 0, 1) := by decide +kernel
theorem cdX5_init_7 : decode cX5_init 7 = .ok (.invokestatic 7, 3) := by decide +kernel
theorem cdX5_init_10 : decode cX5_init 10 = .ok (.newarray .int, 2) := by decide +kernel
theorem cdX5_init_12 : decode cX5_init 12 = .ok (.putfield 13, 3) := by decide +kernel
theorem cdX5_init_15 : decode cX5_init 15 = .ok (.return_, 1) := by decide +kernel
theorem cdX3_init_0 : decode cX3_init 0 = .ok (.aload_n 0, 1) := by decide +kernel
theorem cdX3_init_1 : decode cX3_init 1 = .ok (.invokespecial 3, 3) := by decide +kernel
theorem cdX3_init_4 : decode cX3_init 4 = .ok (.aload_n 0, 1) := by decide +kernel
theorem cdX3_init_5 : decode cX3_init 5 = .ok (.iconst (-1), 1) := by decide +kernel
theorem cdX3_init_6 : decode cX3_init 6 = .ok (.putfield 9, 3) := by decide +kernel
theorem cdX3_init_9 : decode cX3_init 9 = .ok (.return_, 1) := by decide +kernel
theorem cdX1_init_0 : decode cX1_init 0 = .ok (.aload_n 0, 1) := by decide +kernel
theorem cdX1_init_1 : decode cX1_init 1 = .ok (.invokespecial 3, 3) := by decide +kernel
theorem cdX1_init_4 : decode cX1_init 4 = .ok (.aload_n 0, 1) := by decide +kernel
theorem cdX1_init_5 : decode cX1_init 5 = .ok (.new 9, 3) := by decide +kernel
theorem cdX1_init_8 : decode cX1_init 8 = .ok (.dup, 1) := by decide +kernel
theorem cdX1_init_9 : decode cX1_init 9 = .ok (.bipush 60, 2) := by decide +kernel
theorem cdX1_init_11 : decode cX1_init 11 = .ok (.invokespecial 11, 3) := by decide +kernel
theorem cdX1_init_14 : decode cX1_init 14 = .ok (.putfield 14, 3) := by decide +kernel
theorem cdX1_init_17 : decode cX1_init 17 = .ok (.aload_n 0, 1) := by decide +kernel
theorem cdX1_init_18 : decode cX1_init 18 = .ok (.iconst 4, 1) := by decide +kernel
theorem cdX1_init_19 : decode cX1_init 19 = .ok (.newarray .int, 2) := by decide +kernel
theorem cdX1_init_21 : decode cX1_init 21 = .ok (.putfield 20, 3) := by decide +kernel
theorem cdX1_init_24 : decode cX1_init 24 = .ok (.aload_n 0, 1) := by decide +kernel
theorem cdX1_init_25 : decode cX1_init 25 = .ok (.bipush 60, 2) := by decide +kernel
theorem cdX1_init_27 : decode cX1_init 27 = .ok (.newarray .int, 2) := by decide +kernel
theorem cdX1_init_29 : decode cX1_init 29 = .ok (.putfield 24, 3) := by decide +kernel
theorem cdX1_init_32 : decode cX1_init 32 = .ok (.return_, 1) := by decide +kernel
theorem cdX4_init_0 : decode cX4_init 0 = .ok (.aload_n 0, 1) := by decide +kernel
theorem cdX4_init_1 : decode cX4_init 1 = .ok (.invokespecial 3, 3) := by decide +kernel
theorem cdX4_init_4 : decode cX4_init 4 = .ok (.aload_n 0, 1) := by decide +kernel
theorem cdX4_init_5 : decode cX4_init 5 = .ok (.new 9, 3) := by decide +kernel
theorem cdX4_init_8 : decode cX4_init 8 = .ok (.dup, 1) := by decide +kernel
theorem cdX4_init_9 : decode cX4_init 9 = .ok (.bipush 24, 2) := by decide +kernel
theorem cdX4_init_11 : decode cX4_init 11 = .ok (.invokespecial 11, 3) := by decide +kernel
theorem cdX4_init_14 : decode cX4_init 14 = .ok (.putfield 14, 3) := by decide +kernel
theorem cdX4_init_17 : decode cX4_init 17 = .ok (.return_, 1) := by decide +kernel
theorem cdX8_init_0 : decode cX8_init 0 = .ok (.aload_n 0, 1) := by decide +kernel
theorem cdX8_init_1 : decode cX8_init 1 = .ok (.invokespecial 3, 3) := by decide +kernel
theorem cdX8_init_4 : decode cX8_init 4 = .ok (.aload_n 0, 1) := by decide +kernel
theorem cdX8_init_5 : decode cX8_init 5 = .ok (.new 9, 3) := by decide +kernel
theorem cdX8_init_8 : decode cX8_init 8 = .ok (.dup, 1) := by decide +kernel
theorem cdX8_init_9 : decode cX8_init 9 = .ok (.bipush 30, 2) := by decide +kernel
theorem cdX8_init_11 : decode cX8_init 11 = .ok (.invokespecial 13, 3) := by decide +kernel
theorem cdX8_init_14 : decode cX8_init 14 = .ok (.putfield 16, 3) := by decide +kernel
theorem cdX8_init_17 : decode cX8_init 17 = .ok (.return_, 1) := by decide +kernel
theorem cdX2_init_0 : decode cX2_init 0 = .ok (.aload_n 0, 1) := by decide +kernel
theorem cdX2_init_1 : decode cX2_init 1 = .ok (.invokespecial 3, 3) := by decide +kernel
theorem cdX2_init_4 : decode cX2_init 4 = .ok (.aload_n 0, 1) := by decide +kernel
theorem cdX2_init_5 : decode cX2_init 5 = .ok (.new 9, 3) := by decide +kernel
theorem cdX2_init_8 : decode cX2_init 8 = .ok (.dup, 1) := by decide +kernel
theorem cdX2_init_9 : decode cX2_init 9 = .ok (.bipush 60, 2) := by decide +kernel
theorem cdX2_init_11 : decode cX2_init 11 = .ok (.invokespecial 11, 3) := by decide +kernel
theorem cdX2_init_14 : decode cX2_init 14 = .ok (.putfield 14, 3) := by decide +kernel
theorem cdX2_init_17 : decode cX2_init 17 = .ok (.aload_n 0, 1) := by decide +kernel
theorem cdX2_init_18 : decode cX2_init 18 = .ok (.aload_n 1, 1) := by decide +kernel
theorem cdX2_init_19 : decode cX2_init 19 = .ok (.putfield 20, 3) := by decide +kernel
theorem cdX2_init_22 : decode cX2_init 22 = .ok (.return_, 1) := by decide +kernel
theorem cdX6_init_0 : decode cX6_init 0 = .ok (.aload_n 0, 1) := by decide +kernel
theorem cdX6_init_1 : decode cX6_init 1 = .ok (.invokespecial 3, 3) := by decide +kernel
theorem cdX6_init_4 : decode cX6_init 4 = .ok (.aload_n 0, 1) := by decide +kernel
theorem cdX6_init_5 : decode cX6_init 5 = .ok (.new 9, 3) := by decide +kernel
theorem cdX6_init_8 : decode cX6_init 8 = .ok (.dup, 1) := by decide +kernel
theorem cdX6_init_9 : decode cX6_init 9 = .ok (.iconst 4, 1) := by decide +kernel
theorem cdX6_init_10 : decode cX6_init 10 = .ok (.invokespecial 11, 3) := by decide +kernel
theorem cdX6_init_13 : decode cX6_init 13 = .ok (.putfield 14, 3) := by decide +kernel
theorem cdX6_init_16 : decode cX6_init 16 = .ok (.aload_n 0, 1) := by decide +kernel
theorem cdX6_init_17 : decode cX6_init 17 = .ok (.new 9, 3) := by decide +kernel
theorem cdX6_init_20 : decode cX6_init 20 = .ok (.dup, 1) := by decide +kernel
theorem cdX6_init_21 : decode cX6_init 21 = .ok (.bipush 16, 2) := by decide +kernel
theorem cdX6_init_23 : decode cX6_init 23 = .ok (.invokespecial 11, 3) := by decide +kernel
theorem cdX6_init_26 : decode cX6_init 26 = .ok (.putfield 20, 3) := by decide +kernel
theorem cdX6_init_29 : decode cX6_init 29 = .ok (.aload_n 0, 1) := by decide +kernel
theorem cdX6_init_30 : decode cX6_init 30 = .ok (.new 9, 3) := by decide +kernel
theorem cdX6_init_33 : decode cX6_init 33 = .ok (.dup, 1) := by decide +kernel
theorem cdX6_init_34 : decode cX6_init 34 = .ok (.iconst 4, 1) := by decide +kernel
theorem cdX6_init_35 : decode cX6_init 35 = .ok (.invokespecial 11, 3) := by decide +kernel
theorem cdX6_init_38 : decode cX6_init 38 = .ok (.putfield 23, 3) := by decide +kernel
theorem cdX6_init_41 : decode cX6_init 41 = .ok (.aload_n 0, 1) := by decide +kernel
theorem cdX6_init_42 : decode cX6_init 42 = .ok (.aload_n 1, 1) := by decide +kernel
theorem cdX6_init_43 : decode cX6_init 43 = .ok (.putfield 26, 3) := by decide +kernel
theorem cdX6_init_46 : decode cX6_init 46 = .ok (.aload_n 0, 1) := by decide +kernel
theorem cdX6_init_47 : decode cX6_init 47 = .ok (.aload_n 2, 1) := by decide +kernel
theorem cdX6_init_48 : decode cX6_init 48 = .ok (.putfield 30, 3) := by decide +kernel
theorem cdX6_init_51 : decode cX6_init 51 = .ok (.return_, 1) := by decide +kernel
