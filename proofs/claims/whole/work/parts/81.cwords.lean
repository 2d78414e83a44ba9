/-! MAKING: words, codes, empty objects. -/
abbrev dX0 : List Value := [.null, .null, .int 0, .int 0]
theorem dX0_ok : ∀ j, j < 4 → defaultValue (tyX0 j) = vp_V dX0 j := by decide +kernel
abbrev dX1 : List Value := [.null, .null, .null]
theorem dX1_ok : ∀ j, j < 3 → defaultValue (tyX1 j) = vp_V dX1 j := by decide +kernel
abbrev dX2 : List Value := [.null, .null, .int 0]
theorem dX2_ok : ∀ j, j < 3 → defaultValue (tyX2 j) = vp_V dX2 j := by decide +kernel
abbrev dX3 : List Value := [.int 0, .int 0, .int 0, .int 0, .int 0, .int 0, .int 0]
theorem dX3_ok : ∀ j, j < 7 → defaultValue (tyX3 j) = vp_V dX3 j := by decide +kernel
abbrev dX4 : List Value := [.null, .int 0]
theorem dX4_ok : ∀ j, j < 2 → defaultValue (tyX4 j) = vp_V dX4 j := by decide +kernel
abbrev dX5 : List Value := [.null, .int 0]
theorem dX5_ok : ∀ j, j < 2 → defaultValue (tyX5 j) = vp_V dX5 j := by decide +kernel
abbrev dX6 : List Value := [.null, .null, .null, .null, .null, .int 0]
theorem dX6_ok : ∀ j, j < 6 → defaultValue (tyX6 j) = vp_V dX6 j := by decide +kernel
abbrev dX7 : List Value := [.null, .int 0, .int 0, .int 0, .int 0, .null, .int 0, .null, .null, .null, .null, .null, .int 0, .null, .null]
theorem dX7_ok : ∀ j, j < 15 → defaultValue (tyX7 j) = vp_V dX7 j := by decide +kernel
abbrev dX8 : List Value := [.null, .int 0, .int 0, .int 0, .int 0]
theorem dX8_ok : ∀ j, j < 5 → defaultValue (tyX8 j) = vp_V dX8 j := by decide +kernel
abbrev dX9 : List Value := [.null, .null, .int 0, .null, .null, .null, .null, .null, .null]
theorem dX9_ok : ∀ j, j < 9 → defaultValue (tyX9 j) = vp_V dX9 j := by decide +kernel
abbrev dX10 : List Value := [.null, .null, .null, .int 0, .null, .int 0, .int 0, .int 0, .int 0, .null, .null, .null, .null, .null, .null, .int 0, .int 0, .null, .null, .int 0, .int 0, .int 0, .null, .null, .null, .null]
theorem dX10_ok : ∀ j, j < 26 → defaultValue (tyX10 j) = vp_V dX10 j := by decide +kernel
theorem c_ws {Qf : Array Value → State → Outcome → State → Prop} {l : Launch} {G : Gx} {R : Room} {b : ByteArray} {own : String} {maxL sz : Nat} {A : Nat → Prop} {pc : Nat} {lv : List (Nat × Value)} {st : List Value} {ws ws' : va_W} {cells slots : Nat} (h : ws = ws') (kk : SC Qf l G R b own maxL sz A pc lv st ws' cells slots) : SC Qf l G R b own maxL sz A pc lv st ws cells slots := h ▸ kk
theorem iw_61 : gw (.initialized RX7) := ⟨List.mem_of_getElem? (i := 61) (by decide +kernel), rfl⟩
theorem iw_62 : gw (.initialized RX1) := ⟨List.mem_of_getElem? (i := 62) (by decide +kernel), rfl⟩
theorem iw_63 : gw (.initialized RX5) := ⟨List.mem_of_getElem? (i := 63) (by decide +kernel), rfl⟩
theorem iw_64 : gw (.initialized RJ9) := ⟨List.mem_of_getElem? (i := 64) (by decide +kernel), rfl⟩
theorem iw_65 : gw (.initialized RX3) := ⟨List.mem_of_getElem? (i := 65) (by decide +kernel), rfl⟩
theorem iw_66 : gw (.initialized RX0) := ⟨List.mem_of_getElem? (i := 66) (by decide +kernel), rfl⟩
theorem iw_67 : gw (.initialized RX6) := ⟨List.mem_of_getElem? (i := 67) (by decide +kernel), rfl⟩
theorem iw_68 : gw (.initialized RX2) := ⟨List.mem_of_getElem? (i := 68) (by decide +kernel), rfl⟩
theorem iw_69 : gw (.initialized RX8) := ⟨List.mem_of_getElem? (i := 69) (by decide +kernel), rfl⟩
theorem iw_70 : gw (.initialized RX4) := ⟨List.mem_of_getElem? (i := 70) (by decide +kernel), rfl⟩
theorem iw_83 : gw (.methodLink RX9 3 Lib.objectInit) := ⟨List.mem_of_getElem? (i := 83) (by decide +kernel), rfl⟩
theorem iw_84 : gw (.instanceMethod Lib.objectInit) := ⟨List.mem_of_getElem? (i := 84) (by decide +kernel), rfl⟩
theorem iw_85 : gw (.code Lib.objectInit ⟨#[0xb1]⟩ 1 none) := ⟨List.mem_of_getElem? (i := 85) (by decide +kernel), rfl⟩
theorem iw_86 : gw (.classLink RX9 9 RX7) := ⟨List.mem_of_getElem? (i := 86) (by decide +kernel), rfl⟩
theorem iw_87 : gw (.instantiable RX7 15) := ⟨List.mem_of_getElem? (i := 87) (by decide +kernel), rfl⟩
theorem iw_88 : gw (.methodLink RX9 11 yX7_init) := ⟨List.mem_of_getElem? (i := 88) (by decide +kernel), rfl⟩
theorem iw_89 : gw (.instanceMethod yX7_init) := ⟨List.mem_of_getElem? (i := 89) (by decide +kernel), rfl⟩
theorem iw_90 : gw (.code yX7_init cX7_init 2 none) := ⟨List.mem_of_getElem? (i := 90) (by decide +kernel), rfl⟩
theorem iw_91 : gw (.methodLink RX7 3 Lib.objectInit) := ⟨List.mem_of_getElem? (i := 91) (by decide +kernel), rfl⟩
theorem iw_92 : gw (.classLink RX7 22 RX3) := ⟨List.mem_of_getElem? (i := 92) (by decide +kernel), rfl⟩
theorem iw_94 : gw (.classLink RX7 28 RX5) := ⟨List.mem_of_getElem? (i := 94) (by decide +kernel), rfl⟩
theorem iw_96 : gw (.classLink RX7 37 RX1) := ⟨List.mem_of_getElem? (i := 96) (by decide +kernel), rfl⟩
theorem iw_97 : gw (.instantiable RX1 3) := ⟨List.mem_of_getElem? (i := 97) (by decide +kernel), rfl⟩
theorem iw_98 : nw (.methodLinkNest RX7 39 yX1_init RX9) := ⟨List.mem_of_getElem? (i := 98) (by decide +kernel), rfl⟩
theorem iw_99 : gw (.instanceMethod yX1_init) := ⟨List.mem_of_getElem? (i := 99) (by decide +kernel), rfl⟩
theorem iw_100 : gw (.code yX1_init cX1_init 1 none) := ⟨List.mem_of_getElem? (i := 100) (by decide +kernel), rfl⟩
theorem iw_101 : gw (.methodLink RX1 3 Lib.objectInit) := ⟨List.mem_of_getElem? (i := 101) (by decide +kernel), rfl⟩
theorem iw_102 : gw (.classLink RX1 9 RX5) := ⟨List.mem_of_getElem? (i := 102) (by decide +kernel), rfl⟩
theorem iw_103 : gw (.instantiable RX5 2) := ⟨List.mem_of_getElem? (i := 103) (by decide +kernel), rfl⟩
theorem iw_104 : gw (.methodLink RX1 11 yX5_init) := ⟨List.mem_of_getElem? (i := 104) (by decide +kernel), rfl⟩
theorem iw_105 : gw (.instanceMethod yX5_init) := ⟨List.mem_of_getElem? (i := 105) (by decide +kernel), rfl⟩
theorem iw_106 : gw (.code yX5_init cX5_init 2 none) := ⟨List.mem_of_getElem? (i := 106) (by decide +kernel), rfl⟩
theorem iw_107 : gw (.methodLink RX5 1 Lib.objectInit) := ⟨List.mem_of_getElem? (i := 107) (by decide +kernel), rfl⟩
theorem iw_108 : gw (.methodLink RX5 7 Lib.Math.max.name) := ⟨List.mem_of_getElem? (i := 108) (by decide +kernel), rfl⟩
theorem iw_109 : gw (.static Lib.Math.max.name) := ⟨List.mem_of_getElem? (i := 109) (by decide +kernel), rfl⟩
theorem iw_110 : gw (.code Lib.Math.max.name Lib.Math.max.code 2 (some .int)) := ⟨List.mem_of_getElem? (i := 110) (by decide +kernel), rfl⟩
theorem iw_111 : gw (.fieldLink RX5 13 RX5 (TX5 0).2.1 (TX5 0).2.2.1) := ⟨List.mem_of_getElem? (i := 111) (by decide +kernel), rfl⟩
theorem iw_125 : gw (.arrayClass .int) := ⟨List.mem_of_getElem? (i := 125) (by decide +kernel), rfl⟩
theorem iw_126 : gw (.fieldLink RX1 14 RX1 (TX1 0).2.1 (TX1 0).2.2.1) := ⟨List.mem_of_getElem? (i := 126) (by decide +kernel), rfl⟩
theorem iw_129 : gw (.fieldLink RX1 20 RX1 (TX1 1).2.1 (TX1 1).2.2.1) := ⟨List.mem_of_getElem? (i := 129) (by decide +kernel), rfl⟩
theorem iw_130 : gw (.fieldLink RX1 24 RX1 (TX1 2).2.1 (TX1 2).2.2.1) := ⟨List.mem_of_getElem? (i := 130) (by decide +kernel), rfl⟩
theorem iw_138 : gw (.methodLink RX7 50 yX5_init) := ⟨List.mem_of_getElem? (i := 138) (by decide +kernel), rfl⟩
theorem iw_139 : gw (.instantiable RX3 7) := ⟨List.mem_of_getElem? (i := 139) (by decide +kernel), rfl⟩
theorem iw_140 : nw (.methodLinkNest RX7 60 yX3_init RX9) := ⟨List.mem_of_getElem? (i := 140) (by decide +kernel), rfl⟩
theorem iw_141 : gw (.instanceMethod yX3_init) := ⟨List.mem_of_getElem? (i := 141) (by decide +kernel), rfl⟩
theorem iw_142 : gw (.code yX3_init cX3_init 1 none) := ⟨List.mem_of_getElem? (i := 142) (by decide +kernel), rfl⟩
theorem iw_143 : gw (.methodLink RX3 3 Lib.objectInit) := ⟨List.mem_of_getElem? (i := 143) (by decide +kernel), rfl⟩
theorem iw_158 : gw (.fieldLink RX3 9 RX3 (TX3 5).2.1 (TX3 5).2.2.1) := ⟨List.mem_of_getElem? (i := 158) (by decide +kernel), rfl⟩
theorem iw_178 : gw (.fieldLink RX7 9 RX7 (TX7 0).2.1 (TX7 0).2.2.1) := ⟨List.mem_of_getElem? (i := 178) (by decide +kernel), rfl⟩
theorem iw_180 : gw (.fieldLink RX7 15 RX7 (TX7 1).2.1 (TX7 1).2.2.1) := ⟨List.mem_of_getElem? (i := 180) (by decide +kernel), rfl⟩
theorem iw_186 : gw (.fieldLink RX7 19 RX7 (TX7 4).2.1 (TX7 4).2.2.1) := ⟨List.mem_of_getElem? (i := 186) (by decide +kernel), rfl⟩
theorem iw_188 : gw (.fieldLink RX7 24 RX7 (TX7 5).2.1 (TX7 5).2.2.1) := ⟨List.mem_of_getElem? (i := 188) (by decide +kernel), rfl⟩
theorem iw_192 : gw (.fieldLink RX7 30 RX7 (TX7 7).2.1 (TX7 7).2.2.1) := ⟨List.mem_of_getElem? (i := 192) (by decide +kernel), rfl⟩
theorem iw_196 : gw (.fieldLink RX7 34 RX7 (TX7 8).2.1 (TX7 8).2.2.1) := ⟨List.mem_of_getElem? (i := 196) (by decide +kernel), rfl⟩
theorem iw_199 : gw (.fieldLink RX7 40 RX7 (TX7 9).2.1 (TX7 9).2.2.1) := ⟨List.mem_of_getElem? (i := 199) (by decide +kernel), rfl⟩
theorem iw_200 : gw (.fieldLink RX7 44 RX7 (TX7 10).2.1 (TX7 10).2.2.1) := ⟨List.mem_of_getElem? (i := 200) (by decide +kernel), rfl⟩
theorem iw_201 : gw (.fieldLink RX7 47 RX7 (TX7 11).2.1 (TX7 11).2.2.1) := ⟨List.mem_of_getElem? (i := 201) (by decide +kernel), rfl⟩
theorem iw_205 : nw (.fieldLinkNest RX9 39 RX7 (TX7 13).2.1 (TX7 13).2.2.1 RX9) := ⟨List.mem_of_getElem? (i := 205) (by decide +kernel), rfl⟩
theorem iw_206 : gw (.fieldLink RX7 53 RX7 (TX7 13).2.1 (TX7 13).2.2.1) := ⟨List.mem_of_getElem? (i := 206) (by decide +kernel), rfl⟩
theorem iw_207 : gw (.fieldLink RX7 57 RX7 (TX7 14).2.1 (TX7 14).2.2.1) := ⟨List.mem_of_getElem? (i := 207) (by decide +kernel), rfl⟩
theorem iw_240 : gw (.classLink RX9 19 RX0) := ⟨List.mem_of_getElem? (i := 240) (by decide +kernel), rfl⟩
theorem iw_241 : gw (.instantiable RX0 4) := ⟨List.mem_of_getElem? (i := 241) (by decide +kernel), rfl⟩
theorem iw_242 : gw (.methodLink RX9 21 yX0_init) := ⟨List.mem_of_getElem? (i := 242) (by decide +kernel), rfl⟩
theorem iw_243 : gw (.instanceMethod yX0_init) := ⟨List.mem_of_getElem? (i := 243) (by decide +kernel), rfl⟩
theorem iw_244 : gw (.code yX0_init cX0_init 3 none) := ⟨List.mem_of_getElem? (i := 244) (by decide +kernel), rfl⟩
theorem iw_245 : gw (.methodLink RX0 3 Lib.objectInit) := ⟨List.mem_of_getElem? (i := 245) (by decide +kernel), rfl⟩
theorem iw_246 : gw (.classLink RX0 9 RX3) := ⟨List.mem_of_getElem? (i := 246) (by decide +kernel), rfl⟩
theorem iw_247 : nw (.methodLinkNest RX0 21 yX3_init RX9) := ⟨List.mem_of_getElem? (i := 247) (by decide +kernel), rfl⟩
theorem iw_248 : gw (.fieldLink RX0 17 RX0 (TX0 0).2.1 (TX0 0).2.2.1) := ⟨List.mem_of_getElem? (i := 248) (by decide +kernel), rfl⟩
theorem iw_249 : gw (.fieldLink RX0 11 RX0 (TX0 1).2.1 (TX0 1).2.2.1) := ⟨List.mem_of_getElem? (i := 249) (by decide +kernel), rfl⟩
theorem iw_263 : gw (.classLink RX9 28 RX6) := ⟨List.mem_of_getElem? (i := 263) (by decide +kernel), rfl⟩
theorem iw_264 : gw (.instantiable RX6 6) := ⟨List.mem_of_getElem? (i := 264) (by decide +kernel), rfl⟩
theorem iw_265 : gw (.methodLink RX9 30 yX6_init) := ⟨List.mem_of_getElem? (i := 265) (by decide +kernel), rfl⟩
theorem iw_266 : gw (.instanceMethod yX6_init) := ⟨List.mem_of_getElem? (i := 266) (by decide +kernel), rfl⟩
theorem iw_267 : gw (.code yX6_init cX6_init 3 none) := ⟨List.mem_of_getElem? (i := 267) (by decide +kernel), rfl⟩
theorem iw_268 : gw (.methodLink RX6 3 Lib.objectInit) := ⟨List.mem_of_getElem? (i := 268) (by decide +kernel), rfl⟩
theorem iw_269 : gw (.classLink RX6 9 RX5) := ⟨List.mem_of_getElem? (i := 269) (by decide +kernel), rfl⟩
theorem iw_270 : gw (.methodLink RX6 11 yX5_init) := ⟨List.mem_of_getElem? (i := 270) (by decide +kernel), rfl⟩
theorem iw_271 : gw (.fieldLink RX6 26 RX6 (TX6 0).2.1 (TX6 0).2.2.1) := ⟨List.mem_of_getElem? (i := 271) (by decide +kernel), rfl⟩
theorem iw_272 : gw (.fieldLink RX6 30 RX6 (TX6 1).2.1 (TX6 1).2.2.1) := ⟨List.mem_of_getElem? (i := 272) (by decide +kernel), rfl⟩
theorem iw_273 : gw (.fieldLink RX6 14 RX6 (TX6 2).2.1 (TX6 2).2.2.1) := ⟨List.mem_of_getElem? (i := 273) (by decide +kernel), rfl⟩
theorem iw_274 : gw (.fieldLink RX6 20 RX6 (TX6 3).2.1 (TX6 3).2.2.1) := ⟨List.mem_of_getElem? (i := 274) (by decide +kernel), rfl⟩
theorem iw_275 : gw (.fieldLink RX6 23 RX6 (TX6 4).2.1 (TX6 4).2.2.1) := ⟨List.mem_of_getElem? (i := 275) (by decide +kernel), rfl⟩
theorem iw_292 : gw (.classLink RX9 37 RX2) := ⟨List.mem_of_getElem? (i := 292) (by decide +kernel), rfl⟩
theorem iw_293 : gw (.instantiable RX2 3) := ⟨List.mem_of_getElem? (i := 293) (by decide +kernel), rfl⟩
theorem iw_294 : gw (.methodLink RX9 43 yX2_init) := ⟨List.mem_of_getElem? (i := 294) (by decide +kernel), rfl⟩
theorem iw_295 : gw (.instanceMethod yX2_init) := ⟨List.mem_of_getElem? (i := 295) (by decide +kernel), rfl⟩
theorem iw_296 : gw (.code yX2_init cX2_init 2 none) := ⟨List.mem_of_getElem? (i := 296) (by decide +kernel), rfl⟩
theorem iw_297 : gw (.methodLink RX2 3 Lib.objectInit) := ⟨List.mem_of_getElem? (i := 297) (by decide +kernel), rfl⟩
theorem iw_298 : gw (.classLink RX2 9 RX5) := ⟨List.mem_of_getElem? (i := 298) (by decide +kernel), rfl⟩
theorem iw_299 : gw (.methodLink RX2 11 yX5_init) := ⟨List.mem_of_getElem? (i := 299) (by decide +kernel), rfl⟩
theorem iw_300 : gw (.fieldLink RX2 20 RX2 (TX2 0).2.1 (TX2 0).2.2.1) := ⟨List.mem_of_getElem? (i := 300) (by decide +kernel), rfl⟩
theorem iw_301 : gw (.fieldLink RX2 14 RX2 (TX2 1).2.1 (TX2 1).2.2.1) := ⟨List.mem_of_getElem? (i := 301) (by decide +kernel), rfl⟩
theorem iw_311 : gw (.classLink RX9 50 RX8) := ⟨List.mem_of_getElem? (i := 311) (by decide +kernel), rfl⟩
theorem iw_312 : gw (.instantiable RX8 5) := ⟨List.mem_of_getElem? (i := 312) (by decide +kernel), rfl⟩
theorem iw_313 : nw (.methodLinkNest RX9 52 yX8_init RX9) := ⟨List.mem_of_getElem? (i := 313) (by decide +kernel), rfl⟩
theorem iw_314 : gw (.instanceMethod yX8_init) := ⟨List.mem_of_getElem? (i := 314) (by decide +kernel), rfl⟩
theorem iw_315 : gw (.code yX8_init cX8_init 1 none) := ⟨List.mem_of_getElem? (i := 315) (by decide +kernel), rfl⟩
theorem iw_316 : gw (.methodLink RX8 3 Lib.objectInit) := ⟨List.mem_of_getElem? (i := 316) (by decide +kernel), rfl⟩
theorem iw_317 : gw (.classLink RX8 9 RX5) := ⟨List.mem_of_getElem? (i := 317) (by decide +kernel), rfl⟩
theorem iw_318 : gw (.methodLink RX8 13 yX5_init) := ⟨List.mem_of_getElem? (i := 318) (by decide +kernel), rfl⟩
theorem iw_319 : gw (.fieldLink RX8 16 RX8 (TX8 0).2.1 (TX8 0).2.2.1) := ⟨List.mem_of_getElem? (i := 319) (by decide +kernel), rfl⟩
theorem iw_337 : gw (.classLink RX9 57 RX4) := ⟨List.mem_of_getElem? (i := 337) (by decide +kernel), rfl⟩
theorem iw_339 : gw (.instantiable RX4 2) := ⟨List.mem_of_getElem? (i := 339) (by decide +kernel), rfl⟩
theorem iw_340 : nw (.methodLinkNest RX9 67 yX4_init RX9) := ⟨List.mem_of_getElem? (i := 340) (by decide +kernel), rfl⟩
theorem iw_341 : gw (.instanceMethod yX4_init) := ⟨List.mem_of_getElem? (i := 341) (by decide +kernel), rfl⟩
theorem iw_342 : gw (.code yX4_init cX4_init 1 none) := ⟨List.mem_of_getElem? (i := 342) (by decide +kernel), rfl⟩
theorem iw_343 : gw (.methodLink RX4 3 Lib.objectInit) := ⟨List.mem_of_getElem? (i := 343) (by decide +kernel), rfl⟩
theorem iw_344 : gw (.classLink RX4 9 RX5) := ⟨List.mem_of_getElem? (i := 344) (by decide +kernel), rfl⟩
theorem iw_345 : gw (.methodLink RX4 11 yX5_init) := ⟨List.mem_of_getElem? (i := 345) (by decide +kernel), rfl⟩
theorem iw_346 : gw (.fieldLink RX4 14 RX4 (TX4 0).2.1 (TX4 0).2.2.1) := ⟨List.mem_of_getElem? (i := 346) (by decide +kernel), rfl⟩
theorem iw_355 : gw (.fieldLink RX9 12 RX9 (TX9 0).2.1 (TX9 0).2.2.1) := ⟨List.mem_of_getElem? (i := 355) (by decide +kernel), rfl⟩
theorem iw_356 : gw (.fieldLink RX9 16 RX9 (TX9 1).2.1 (TX9 1).2.2.1) := ⟨List.mem_of_getElem? (i := 356) (by decide +kernel), rfl⟩
theorem iw_358 : gw (.fieldLink RX9 24 RX9 (TX9 3).2.1 (TX9 3).2.2.1) := ⟨List.mem_of_getElem? (i := 358) (by decide +kernel), rfl⟩
theorem iw_359 : gw (.fieldLink RX9 33 RX9 (TX9 4).2.1 (TX9 4).2.2.1) := ⟨List.mem_of_getElem? (i := 359) (by decide +kernel), rfl⟩
theorem iw_360 : gw (.fieldLink RX9 46 RX9 (TX9 5).2.1 (TX9 5).2.2.1) := ⟨List.mem_of_getElem? (i := 360) (by decide +kernel), rfl⟩
theorem iw_361 : gw (.fieldLink RX9 53 RX9 (TX9 6).2.1 (TX9 6).2.2.1) := ⟨List.mem_of_getElem? (i := 361) (by decide +kernel), rfl⟩
theorem iw_362 : gw (.fieldLink RX9 59 RX9 (TX9 7).2.1 (TX9 7).2.2.1) := ⟨List.mem_of_getElem? (i := 362) (by decide +kernel), rfl⟩
theorem iw_363 : gw (.fieldLink RX9 63 RX9 (TX9 8).2.1 (TX9 8).2.2.1) := ⟨List.mem_of_getElem? (i := 363) (by decide +kernel), rfl⟩
theorem iw_985 : gw (.methodLink RX10 1 Lib.objectInit) := ⟨List.mem_of_getElem? (i := 985) (by decide +kernel), rfl⟩
theorem iw_986 : gw (.fieldLink RX10 7 RX10 (TX10 0).2.1 (TX10 0).2.2.1) := ⟨List.mem_of_getElem? (i := 986) (by decide +kernel), rfl⟩
theorem iw_987 : gw (.fieldLink RX10 13 RX10 (TX10 1).2.1 (TX10 1).2.2.1) := ⟨List.mem_of_getElem? (i := 987) (by decide +kernel), rfl⟩
theorem iw_988 : gw (.fieldLink RX10 16 RX10 (TX10 2).2.1 (TX10 2).2.2.1) := ⟨List.mem_of_getElem? (i := 988) (by decide +kernel), rfl⟩
theorem iw_990 : gw (.fieldLink RX10 19 RX10 (TX10 4).2.1 (TX10 4).2.2.1) := ⟨List.mem_of_getElem? (i := 990) (by decide +kernel), rfl⟩
theorem iw_995 : gw (.fieldLink RX10 22 RX10 (TX10 9).2.1 (TX10 9).2.2.1) := ⟨List.mem_of_getElem? (i := 995) (by decide +kernel), rfl⟩
theorem iw_996 : gw (.fieldLink RX10 25 RX10 (TX10 10).2.1 (TX10 10).2.2.1) := ⟨List.mem_of_getElem? (i := 996) (by decide +kernel), rfl⟩
theorem iw_997 : gw (.fieldLink RX10 28 RX10 (TX10 11).2.1 (TX10 11).2.2.1) := ⟨List.mem_of_getElem? (i := 997) (by decide +kernel), rfl⟩
theorem iw_998 : gw (.fieldLink RX10 31 RX10 (TX10 12).2.1 (TX10 12).2.2.1) := ⟨List.mem_of_getElem? (i := 998) (by decide +kernel), rfl⟩
theorem iw_999 : gw (.fieldLink RX10 34 RX10 (TX10 13).2.1 (TX10 13).2.2.1) := ⟨List.mem_of_getElem? (i := 999) (by decide +kernel), rfl⟩
theorem iw_1000 : gw (.fieldLink RX10 37 RX10 (TX10 14).2.1 (TX10 14).2.2.1) := ⟨List.mem_of_getElem? (i := 1000) (by decide +kernel), rfl⟩
theorem iw_1003 : gw (.fieldLink RX10 40 RX10 (TX10 17).2.1 (TX10 17).2.2.1) := ⟨List.mem_of_getElem? (i := 1003) (by decide +kernel), rfl⟩
theorem iw_1004 : gw (.fieldLink RX10 43 RX10 (TX10 18).2.1 (TX10 18).2.2.1) := ⟨List.mem_of_getElem? (i := 1004) (by decide +kernel), rfl⟩
theorem iw_1008 : gw (.fieldLink RX10 46 RX10 (TX10 22).2.1 (TX10 22).2.2.1) := ⟨List.mem_of_getElem? (i := 1008) (by decide +kernel), rfl⟩
theorem iw_1009 : gw (.fieldLink RX10 49 RX10 (TX10 23).2.1 (TX10 23).2.2.1) := ⟨List.mem_of_getElem? (i := 1009) (by decide +kernel), rfl⟩
theorem iw_1010 : gw (.fieldLink RX10 52 RX10 (TX10 24).2.1 (TX10 24).2.2.1) := ⟨List.mem_of_getElem? (i := 1010) (by decide +kernel), rfl⟩
theorem iw_1011 : gw (.fieldLink RX10 55 RX10 (TX10 25).2.1 (TX10 25).2.2.1) := ⟨List.mem_of_getElem? (i := 1011) (by decide +kernel), rfl⟩
theorem oki_X5_init : okI yX5_init cX5_init 2 1 := ⟨iw_106, iw_63, iw_105, rfl, by decide +kernel, rfl⟩
theorem oki_X3_init : okI yX3_init cX3_init 1 0 := ⟨iw_142, iw_65, iw_141, rfl, by decide +kernel, rfl⟩
theorem oki_X1_init : okI yX1_init cX1_init 1 0 := ⟨iw_100, iw_62, iw_99, rfl, by decide +kernel, rfl⟩
theorem oki_X7_init : okI yX7_init cX7_init 2 0 := ⟨iw_90, iw_61, iw_89, rfl, by decide +kernel, rfl⟩
theorem oki_X0_init : okI yX0_init cX0_init 3 1 := ⟨iw_244, iw_66, iw_243, rfl, by decide +kernel, rfl⟩
theorem oki_X6_init : okI yX6_init cX6_init 3 2 := ⟨iw_267, iw_67, iw_266, rfl, by decide +kernel, rfl⟩
theorem oki_X2_init : okI yX2_init cX2_init 2 1 := ⟨iw_296, iw_68, iw_295, rfl, by decide +kernel, rfl⟩
theorem oki_X8_init : okI yX8_init cX8_init 1 0 := ⟨iw_315, iw_69, iw_314, rfl, by decide +kernel, rfl⟩
theorem oki_X4_init : okI yX4_init cX4_init 1 0 := ⟨iw_342, iw_70, iw_341, rfl, by decide +kernel, rfl⟩
theorem cdX5_init_0 : decode cX5_init 0 = .ok (.aload_n 0, 1) := by decide +kernel
theorem cdX5_init_1 : decode cX5_init 1 = .ok (.invokespecial 1, 3) := by decide +kernel
theorem cdX5_init_4 : decode cX5_init 4 = .ok (.aload_n 0, 1) := by decide +kernel
theorem cdX5_init_5 : decode cX5_init 5 = .ok (.iload_n 1, 1) := by decide +kernel
theorem cdX5_init_6 : decode cX5_init 6 = .ok (.iconst 0, 1) := by decide +kernel
theorem cdX5_init_7 : decode cX5_init 7 = .ok (.invokestatic 7, 3) := by decide +kernel
theorem cdX5_init_10 : decode cX5_init 10 = .ok (.newarray .int, 2) := by decide +kernel
theorem cdX5_init_12 : decode cX5_init 12 = .ok (.putfield 13, 3) := by decide +kernel
theorem cdX5_init_15 : decode cX5_init 15 = .ok (.return_, 1) := by decide +kernel
theorem cdX3_init_0 : decode cX3_init 0 = .ok (.aload_n 0, 1) := by decide +kernel
theorem cdX3_init_1 : decode cX3_init 1 = .ok (.invokespecial 3, 3) := by decide +kernel
theorem cdX3_init_4 : decode cX3_init 4 = .ok (.aload_n 0, 1) := by decide +kernel
theorem cdX3_init_5 : decode cX3_init 5 = .ok (.iconst (-1), 1) := by decide +kernel
theorem cdX3_init_6 : decode cX3_init 6 = .ok (.putfield 9, 3) := by decide +kernel
theorem cdX3_init_9 : decode cX3_init 9 = .ok (.return_, 1) := by decide +kernel
theorem cdX1_init_0 : decode cX1_init 0 = .ok (.aload_n 0, 1) := by decide +kernel
theorem cdX1_init_1 : decode cX1_init 1 = .ok (.invokespecial 3, 3) := by decide +kernel
theorem cdX1_init_4 : decode cX1_init 4 = .ok (.aload_n 0, 1) := by decide +kernel
theorem cdX1_init_5 : decode cX1_init 5 = .ok (.new 9, 3) := by decide +kernel
theorem cdX1_init_8 : decode cX1_init 8 = .ok (.dup, 1) := by decide +kernel
theorem cdX1_init_9 : decode cX1_init 9 = .ok (.bipush 60, 2) := by decide +kernel
theorem cdX1_init_11 : decode cX1_init 11 = .ok (.invokespecial 11, 3) := by decide +kernel
theorem cdX1_init_14 : decode cX1_init 14 = .ok (.putfield 14, 3) := by decide +kernel
theorem cdX1_init_17 : decode cX1_init 17 = .ok (.aload_n 0, 1) := by decide +kernel
theorem cdX1_init_18 : decode cX1_init 18 = .ok (.iconst 4, 1) := by decide +kernel
theorem cdX1_init_19 : decode cX1_init 19 = .ok (.newarray .int, 2) := by decide +kernel
theorem cdX1_init_21 : decode cX1_init 21 = .ok (.putfield 20, 3) := by decide +kernel
theorem cdX1_init_24 : decode cX1_init 24 = .ok (.aload_n 0, 1) := by decide +kernel
theorem cdX1_init_25 : decode cX1_init 25 = .ok (.bipush 60, 2) := by decide +kernel
theorem cdX1_init_27 : decode cX1_init 27 = .ok (.newarray .int, 2) := by decide +kernel
theorem cdX1_init_29 : decode cX1_init 29 = .ok (.putfield 24, 3) := by decide +kernel
theorem cdX1_init_32 : decode cX1_init 32 = .ok (.return_, 1) := by decide +kernel
theorem cdX4_init_0 : decode cX4_init 0 = .ok (.aload_n 0, 1) := by decide +kernel
theorem cdX4_init_1 : decode cX4_init 1 = .ok (.invokespecial 3, 3) := by decide +kernel
theorem cdX4_init_4 : decode cX4_init 4 = .ok (.aload_n 0, 1) := by decide +kernel
theorem cdX4_init_5 : decode cX4_init 5 = .ok (.new 9, 3) := by decide +kernel
theorem cdX4_init_8 : decode cX4_init 8 = .ok (.dup, 1) := by decide +kernel
theorem cdX4_init_9 : decode cX4_init 9 = .ok (.bipush 24, 2) := by decide +kernel
theorem cdX4_init_11 : decode cX4_init 11 = .ok (.invokespecial 11, 3) := by decide +kernel
theorem cdX4_init_14 : decode cX4_init 14 = .ok (.putfield 14, 3) := by decide +kernel
theorem cdX4_init_17 : decode cX4_init 17 = .ok (.return_, 1) := by decide +kernel
theorem cdX8_init_0 : decode cX8_init 0 = .ok (.aload_n 0, 1) := by decide +kernel
theorem cdX8_init_1 : decode cX8_init 1 = .ok (.invokespecial 3, 3) := by decide +kernel
theorem cdX8_init_4 : decode cX8_init 4 = .ok (.aload_n 0, 1) := by decide +kernel
theorem cdX8_init_5 : decode cX8_init 5 = .ok (.new 9, 3) := by decide +kernel
theorem cdX8_init_8 : decode cX8_init 8 = .ok (.dup, 1) := by decide +kernel
theorem cdX8_init_9 : decode cX8_init 9 = .ok (.bipush 30, 2) := by decide +kernel
theorem cdX8_init_11 : decode cX8_init 11 = .ok (.invokespecial 13, 3) := by decide +kernel
theorem cdX8_init_14 : decode cX8_init 14 = .ok (.putfield 16, 3) := by decide +kernel
theorem cdX8_init_17 : decode cX8_init 17 = .ok (.return_, 1) := by decide +kernel
theorem cdX2_init_0 : decode cX2_init 0 = .ok (.aload_n 0, 1) := by decide +kernel
theorem cdX2_init_1 : decode cX2_init 1 = .ok (.invokespecial 3, 3) := by decide +kernel
theorem cdX2_init_4 : decode cX2_init 4 = .ok (.aload_n 0, 1) := by decide +kernel
theorem cdX2_init_5 : decode cX2_init 5 = .ok (.new 9, 3) := by decide +kernel
theorem cdX2_init_8 : decode cX2_init 8 = .ok (.dup, 1) := by decide +kernel
theorem cdX2_init_9 : decode cX2_init 9 = .ok (.bipush 60, 2) := by decide +kernel
theorem cdX2_init_11 : decode cX2_init 11 = .ok (.invokespecial 11, 3) := by decide +kernel
theorem cdX2_init_14 : decode cX2_init 14 = .ok (.putfield 14, 3) := by decide +kernel
theorem cdX2_init_17 : decode cX2_init 17 = .ok (.aload_n 0, 1) := by decide +kernel
theorem cdX2_init_18 : decode cX2_init 18 = .ok (.aload_n 1, 1) := by decide +kernel
theorem cdX2_init_19 : decode cX2_init 19 = .ok (.putfield 20, 3) := by decide +kernel
theorem cdX2_init_22 : decode cX2_init 22 = .ok (.return_, 1) := by decide +kernel
theorem cdX6_init_0 : decode cX6_init 0 = .ok (.aload_n 0, 1) := by decide +kernel
theorem cdX6_init_1 : decode cX6_init 1 = .ok (.invokespecial 3, 3) := by decide +kernel
theorem cdX6_init_4 : decode cX6_init 4 = .ok (.aload_n 0, 1) := by decide +kernel
theorem cdX6_init_5 : decode cX6_init 5 = .ok (.new 9, 3) := by decide +kernel
theorem cdX6_init_8 : decode cX6_init 8 = .ok (.dup, 1) := by decide +kernel
theorem cdX6_init_9 : decode cX6_init 9 = .ok (.iconst 4, 1) := by decide +kernel
theorem cdX6_init_10 : decode cX6_init 10 = .ok (.invokespecial 11, 3) := by decide +kernel
theorem cdX6_init_13 : decode cX6_init 13 = .ok (.putfield 14, 3) := by decide +kernel
theorem cdX6_init_16 : decode cX6_init 16 = .ok (.aload_n 0, 1) := by decide +kernel
theorem cdX6_init_17 : decode cX6_init 17 = .ok (.new 9, 3) := by decide +kernel
theorem cdX6_init_20 : decode cX6_init 20 = .ok (.dup, 1) := by decide +kernel
theorem cdX6_init_21 : decode cX6_init 21 = .ok (.bipush 16, 2) := by decide +kernel
theorem cdX6_init_23 : decode cX6_init 23 = .ok (.invokespecial 11, 3) := by decide +kernel
theorem cdX6_init_26 : decode cX6_init 26 = .ok (.putfield 20, 3) := by decide +kernel
theorem cdX6_init_29 : decode cX6_init 29 = .ok (.aload_n 0, 1) := by decide +kernel
theorem cdX6_init_30 : decode cX6_init 30 = .ok (.new 9, 3) := by decide +kernel
theorem cdX6_init_33 : decode cX6_init 33 = .ok (.dup, 1) := by decide +kernel
theorem cdX6_init_34 : decode cX6_init 34 = .ok (.iconst 4, 1) := by decide +kernel
theorem cdX6_init_35 : decode cX6_init 35 = .ok (.invokespecial 11, 3) := by decide +kernel
theorem cdX6_init_38 : decode cX6_init 38 = .ok (.putfield 23, 3) := by decide +kernel
theorem cdX6_init_41 : decode cX6_init 41 = .ok (.aload_n 0, 1) := by decide +kernel
theorem cdX6_init_42 : decode cX6_init 42 = .ok (.aload_n 1, 1) := by decide +kernel
theorem cdX6_init_43 : decode cX6_init 43 = .ok (.putfield 26, 3) := by decide +kernel
theorem cdX6_init_46 : decode cX6_init 46 = .ok (.aload_n 0, 1) := by decide +kernel
theorem cdX6_init_47 : decode cX6_init 47 = .ok (.aload_n 2, 1) := by decide +kernel
theorem cdX6_init_48 : decode cX6_init 48 = .ok (.putfield 30, 3) := by decide +kernel
theorem cdX6_init_51 : decode cX6_init 51 = .ok (.return_, 1) := by decide +kernel
theorem cdX0_init_0 : decode cX0_init 0 = .ok (.aload_n 0, 1) := by decide +kernel
theorem cdX0_init_1 : decode cX0_init 1 = .ok (.invokespecial 3, 3) := by decide +kernel
theorem cdX0_init_4 : decode cX0_init 4 = .ok (.aload_n 0, 1) := by decide +kernel
theorem cdX0_init_5 : decode cX0_init 5 = .ok (.bipush 8, 2) := by decide +kernel
theorem cdX0_init_7 : decode cX0_init 7 = .ok (.anewarray 9, 3) := by decide +kernel
theorem cdX0_init_10 : decode cX0_init 10 = .ok (.putfield 11, 3) := by decide +kernel
theorem cdX0_init_13 : decode cX0_init 13 = .ok (.aload_n 0, 1) := by decide +kernel
theorem cdX0_init_14 : decode cX0_init 14 = .ok (.aload_n 1, 1) := by decide +kernel
theorem cdX0_init_15 : decode cX0_init 15 = .ok (.putfield 17, 3) := by decide +kernel
theorem cdX0_init_18 : decode cX0_init 18 = .ok (.iconst 0, 1) := by decide +kernel
theorem cdX0_init_19 : decode cX0_init 19 = .ok (.istore_n 2, 1) := by decide +kernel
theorem cdX0_init_20 : decode cX0_init 20 = .ok (.iload_n 2, 1) := by decide +kernel
theorem cdX0_init_21 : decode cX0_init 21 = .ok (.bipush 8, 2) := by decide +kernel
theorem cdX0_init_23 : decode cX0_init 23 = .ok (.if_icmp .ge 22, 3) := by decide +kernel
theorem cdX0_init_26 : decode cX0_init 26 = .ok (.aload_n 0, 1) := by decide +kernel
theorem cdX0_init_27 : decode cX0_init 27 = .ok (.getfield 11, 3) := by decide +kernel
theorem cdX0_init_30 : decode cX0_init 30 = .ok (.iload_n 2, 1) := by decide +kernel
theorem cdX0_init_31 : decode cX0_init 31 = .ok (.new 9, 3) := by decide +kernel
theorem cdX0_init_34 : decode cX0_init 34 = .ok (.dup, 1) := by decide +kernel
theorem cdX0_init_35 : decode cX0_init 35 = .ok (.invokespecial 21, 3) := by decide +kernel
theorem cdX0_init_38 : decode cX0_init 38 = .ok (.aastore, 1) := by decide +kernel
theorem cdX0_init_39 : decode cX0_init 39 = .ok (.iinc 2 1, 3) := by decide +kernel
theorem cdX0_init_42 : decode cX0_init 42 = .ok (.goto (-22), 3) := by decide +kernel
theorem cdX0_init_45 : decode cX0_init 45 = .ok (.return_, 1) := by decide +kernel
theorem cdX7_init_0 : decode cX7_init 0 = .ok (.aload_n 0, 1) := by decide +kernel
theorem cdX7_init_1 : decode cX7_init 1 = .ok (.invokespecial 3, 3) := by decide +kernel
theorem cdX7_init_4 : decode cX7_init 4 = .ok (.aload_n 0, 1) := by decide +kernel
theorem cdX7_init_5 : decode cX7_init 5 = .ok (.iconst 4, 1) := by decide +kernel
theorem cdX7_init_6 : decode cX7_init 6 = .ok (.newarray .int, 2) := by decide +kernel
theorem cdX7_init_8 : decode cX7_init 8 = .ok (.putfield 9, 3) := by decide +kernel
theorem cdX7_init_11 : decode cX7_init 11 = .ok (.aload_n 0, 1) := by decide +kernel
theorem cdX7_init_12 : decode cX7_init 12 = .ok (.sipush 1000, 3) := by decide +kernel
theorem cdX7_init_15 : decode cX7_init 15 = .ok (.putfield 15, 3) := by decide +kernel
theorem cdX7_init_18 : decode cX7_init 18 = .ok (.aload_n 0, 1) := by decide +kernel
theorem cdX7_init_19 : decode cX7_init 19 = .ok (.iconst 1, 1) := by decide +kernel
theorem cdX7_init_20 : decode cX7_init 20 = .ok (.putfield 19, 3) := by decide +kernel
theorem cdX7_init_23 : decode cX7_init 23 = .ok (.aload_n 0, 1) := by decide +kernel
theorem cdX7_init_24 : decode cX7_init 24 = .ok (.bipush 24, 2) := by decide +kernel
theorem cdX7_init_26 : decode cX7_init 26 = .ok (.anewarray 22, 3) := by decide +kernel
theorem cdX7_init_29 : decode cX7_init 29 = .ok (.putfield 24, 3) := by decide +kernel
theorem cdX7_init_32 : decode cX7_init 32 = .ok (.aload_n 0, 1) := by decide +kernel
theorem cdX7_init_33 : decode cX7_init 33 = .ok (.iconst 4, 1) := by decide +kernel
theorem cdX7_init_34 : decode cX7_init 34 = .ok (.anewarray 28, 3) := by decide +kernel
theorem cdX7_init_37 : decode cX7_init 37 = .ok (.putfield 30, 3) := by decide +kernel
theorem cdX7_init_40 : decode cX7_init 40 = .ok (.aload_n 0, 1) := by decide +kernel
theorem cdX7_init_41 : decode cX7_init 41 = .ok (.iconst 4, 1) := by decide +kernel
theorem cdX7_init_42 : decode cX7_init 42 = .ok (.newarray .int, 2) := by decide +kernel
theorem cdX7_init_44 : decode cX7_init 44 = .ok (.putfield 34, 3) := by decide +kernel
theorem cdX7_init_47 : decode cX7_init 47 = .ok (.aload_n 0, 1) := by decide +kernel
theorem cdX7_init_48 : decode cX7_init 48 = .ok (.new 37, 3) := by decide +kernel
theorem cdX7_init_51 : decode cX7_init 51 = .ok (.dup, 1) := by decide +kernel
theorem cdX7_init_52 : decode cX7_init 52 = .ok (.invokespecial 39, 3) := by decide +kernel
theorem cdX7_init_55 : decode cX7_init 55 = .ok (.putfield 40, 3) := by decide +kernel
theorem cdX7_init_58 : decode cX7_init 58 = .ok (.aload_n 0, 1) := by decide +kernel
theorem cdX7_init_59 : decode cX7_init 59 = .ok (.new 37, 3) := by decide +kernel
theorem cdX7_init_62 : decode cX7_init 62 = .ok (.dup, 1) := by decide +kernel
theorem cdX7_init_63 : decode cX7_init 63 = .ok (.invokespecial 39, 3) := by decide +kernel
theorem cdX7_init_66 : decode cX7_init 66 = .ok (.putfield 44, 3) := by decide +kernel
theorem cdX7_init_69 : decode cX7_init 69 = .ok (.aload_n 0, 1) := by decide +kernel
theorem cdX7_init_70 : decode cX7_init 70 = .ok (.bipush 8, 2) := by decide +kernel
theorem cdX7_init_72 : decode cX7_init 72 = .ok (.anewarray 28, 3) := by decide +kernel
theorem cdX7_init_75 : decode cX7_init 75 = .ok (.putfield 47, 3) := by decide +kernel
theorem cdX7_init_78 : decode cX7_init 78 = .ok (.aload_n 0, 1) := by decide +kernel
theorem cdX7_init_79 : decode cX7_init 79 = .ok (.new 28, 3) := by decide +kernel
theorem cdX7_init_82 : decode cX7_init 82 = .ok (.dup, 1) := by decide +kernel
theorem cdX7_init_83 : decode cX7_init 83 = .ok (.bipush 60, 2) := by decide +kernel
theorem cdX7_init_85 : decode cX7_init 85 = .ok (.invokespecial 50, 3) := by decide +kernel
theorem cdX7_init_88 : decode cX7_init 88 = .ok (.putfield 53, 3) := by decide +kernel
theorem cdX7_init_91 : decode cX7_init 91 = .ok (.aload_n 0, 1) := by decide +kernel
theorem cdX7_init_92 : decode cX7_init 92 = .ok (.new 28, 3) := by decide +kernel
theorem cdX7_init_95 : decode cX7_init 95 = .ok (.dup, 1) := by decide +kernel
theorem cdX7_init_96 : decode cX7_init 96 = .ok (.bipush 24, 2) := by decide +kernel
theorem cdX7_init_98 : decode cX7_init 98 = .ok (.invokespecial 50, 3) := by decide +kernel
theorem cdX7_init_101 : decode cX7_init 101 = .ok (.putfield 57, 3) := by decide +kernel
theorem cdX7_init_104 : decode cX7_init 104 = .ok (.iconst 0, 1) := by decide +kernel
theorem cdX7_init_105 : decode cX7_init 105 = .ok (.istore_n 1, 1) := by decide +kernel
theorem cdX7_init_106 : decode cX7_init 106 = .ok (.iload_n 1, 1) := by decide +kernel
theorem cdX7_init_107 : decode cX7_init 107 = .ok (.iconst 4, 1) := by decide +kernel
theorem cdX7_init_108 : decode cX7_init 108 = .ok (.if_icmp .ge 16, 3) := by decide +kernel
theorem cdX7_init_111 : decode cX7_init 111 = .ok (.aload_n 0, 1) := by decide +kernel
theorem cdX7_init_112 : decode cX7_init 112 = .ok (.getfield 9, 3) := by decide +kernel
theorem cdX7_init_115 : decode cX7_init 115 = .ok (.iload_n 1, 1) := by decide +kernel
theorem cdX7_init_116 : decode cX7_init 116 = .ok (.iconst 5, 1) := by decide +kernel
theorem cdX7_init_117 : decode cX7_init 117 = .ok (.iastore, 1) := by decide +kernel
theorem cdX7_init_118 : decode cX7_init 118 = .ok (.iinc 1 1, 3) := by decide +kernel
theorem cdX7_init_121 : decode cX7_init 121 = .ok (.goto (-15), 3) := by decide +kernel
theorem cdX7_init_124 : decode cX7_init 124 = .ok (.iconst 0, 1) := by decide +kernel
theorem cdX7_init_125 : decode cX7_init 125 = .ok (.istore_n 1, 1) := by decide +kernel
theorem cdX7_init_126 : decode cX7_init 126 = .ok (.iload_n 1, 1) := by decide +kernel
theorem cdX7_init_127 : decode cX7_init 127 = .ok (.bipush 24, 2) := by decide +kernel
theorem cdX7_init_129 : decode cX7_init 129 = .ok (.if_icmp .ge 22, 3) := by decide +kernel
theorem cdX7_init_132 : decode cX7_init 132 = .ok (.aload_n 0, 1) := by decide +kernel
theorem cdX7_init_133 : decode cX7_init 133 = .ok (.getfield 24, 3) := by decide +kernel
theorem cdX7_init_136 : decode cX7_init 136 = .ok (.iload_n 1, 1) := by decide +kernel
theorem cdX7_init_137 : decode cX7_init 137 = .ok (.new 22, 3) := by decide +kernel
theorem cdX7_init_140 : decode cX7_init 140 = .ok (.dup, 1) := by decide +kernel
theorem cdX7_init_141 : decode cX7_init 141 = .ok (.invokespecial 60, 3) := by decide +kernel
theorem cdX7_init_144 : decode cX7_init 144 = .ok (.aastore, 1) := by decide +kernel
theorem cdX7_init_145 : decode cX7_init 145 = .ok (.iinc 1 1, 3) := by decide +kernel
theorem cdX7_init_148 : decode cX7_init 148 = .ok (.goto (-22), 3) := by decide +kernel
theorem cdX7_init_151 : decode cX7_init 151 = .ok (.iconst 0, 1) := by decide +kernel
theorem cdX7_init_152 : decode cX7_init 152 = .ok (.istore_n 1, 1) := by decide +kernel
theorem cdX7_init_153 : decode cX7_init 153 = .ok (.iload_n 1, 1) := by decide +kernel
theorem cdX7_init_154 : decode cX7_init 154 = .ok (.iconst 4, 1) := by decide +kernel
theorem cdX7_init_155 : decode cX7_init 155 = .ok (.if_icmp .ge 24, 3) := by decide +kernel
theorem cdX7_init_158 : decode cX7_init 158 = .ok (.aload_n 0, 1) := by decide +kernel
theorem cdX7_init_159 : decode cX7_init 159 = .ok (.getfield 30, 3) := by decide +kernel
theorem cdX7_init_162 : decode cX7_init 162 = .ok (.iload_n 1, 1) := by decide +kernel
theorem cdX7_init_163 : decode cX7_init 163 = .ok (.new 28, 3) := by decide +kernel
theorem cdX7_init_166 : decode cX7_init 166 = .ok (.dup, 1) := by decide +kernel
theorem cdX7_init_167 : decode cX7_init 167 = .ok (.bipush 8, 2) := by decide +kernel
theorem cdX7_init_169 : decode cX7_init 169 = .ok (.invokespecial 50, 3) := by decide +kernel
theorem cdX7_init_172 : decode cX7_init 172 = .ok (.aastore, 1) := by decide +kernel
theorem cdX7_init_173 : decode cX7_init 173 = .ok (.iinc 1 1, 3) := by decide +kernel
theorem cdX7_init_176 : decode cX7_init 176 = .ok (.goto (-23), 3) := by decide +kernel
theorem cdX7_init_179 : decode cX7_init 179 = .ok (.iconst 0, 1) := by decide +kernel
theorem cdX7_init_180 : decode cX7_init 180 = .ok (.istore_n 1, 1) := by decide +kernel
theorem cdX7_init_181 : decode cX7_init 181 = .ok (.iload_n 1, 1) := by decide +kernel
theorem cdX7_init_182 : decode cX7_init 182 = .ok (.bipush 8, 2) := by decide +kernel
theorem cdX7_init_184 : decode cX7_init 184 = .ok (.if_icmp .ge 24, 3) := by decide +kernel
theorem cdX7_init_187 : decode cX7_init 187 = .ok (.aload_n 0, 1) := by decide +kernel
theorem cdX7_init_188 : decode cX7_init 188 = .ok (.getfield 47, 3) := by decide +kernel
theorem cdX7_init_191 : decode cX7_init 191 = .ok (.iload_n 1, 1) := by decide +kernel
theorem cdX7_init_192 : decode cX7_init 192 = .ok (.new 28, 3) := by decide +kernel
theorem cdX7_init_195 : decode cX7_init 195 = .ok (.dup, 1) := by decide +kernel
theorem cdX7_init_196 : decode cX7_init 196 = .ok (.bipush 8, 2) := by decide +kernel
theorem cdX7_init_198 : decode cX7_init 198 = .ok (.invokespecial 50, 3) := by decide +kernel
theorem cdX7_init_201 : decode cX7_init 201 = .ok (.aastore, 1) := by decide +kernel
theorem cdX7_init_202 : decode cX7_init 202 = .ok (.iinc 1 1, 3) := by decide +kernel
theorem cdX7_init_205 : decode cX7_init 205 = .ok (.goto (-24), 3) := by decide +kernel
theorem cdX7_init_208 : decode cX7_init 208 = .ok (.return_, 1) := by decide +kernel
theorem cdX9_init_0 : decode cX9_init 0 = .ok (.aload_n 0, 1) := by decide +kernel
theorem cdX9_init_1 : decode cX9_init 1 = .ok (.invokespecial 3, 3) := by decide +kernel
theorem cdX9_init_4 : decode cX9_init 4 = .ok (.aload_n 0, 1) := by decide +kernel
theorem cdX9_init_5 : decode cX9_init 5 = .ok (.new 9, 3) := by decide +kernel
theorem cdX9_init_8 : decode cX9_init 8 = .ok (.dup, 1) := by decide +kernel
theorem cdX9_init_9 : decode cX9_init 9 = .ok (.invokespecial 11, 3) := by decide +kernel
theorem cdX9_init_12 : decode cX9_init 12 = .ok (.putfield 12, 3) := by decide +kernel
theorem cdX9_init_15 : decode cX9_init 15 = .ok (.aload_n 0, 1) := by decide +kernel
theorem cdX9_init_16 : decode cX9_init 16 = .ok (.new 9, 3) := by decide +kernel
theorem cdX9_init_19 : decode cX9_init 19 = .ok (.dup, 1) := by decide +kernel
theorem cdX9_init_20 : decode cX9_init 20 = .ok (.invokespecial 11, 3) := by decide +kernel
theorem cdX9_init_23 : decode cX9_init 23 = .ok (.putfield 16, 3) := by decide +kernel
theorem cdX9_init_26 : decode cX9_init 26 = .ok (.aload_n 0, 1) := by decide +kernel
theorem cdX9_init_27 : decode cX9_init 27 = .ok (.new 19, 3) := by decide +kernel
theorem cdX9_init_30 : decode cX9_init 30 = .ok (.dup, 1) := by decide +kernel
theorem cdX9_init_31 : decode cX9_init 31 = .ok (.aload_n 0, 1) := by decide +kernel
theorem cdX9_init_32 : decode cX9_init 32 = .ok (.getfield 12, 3) := by decide +kernel
theorem cdX9_init_35 : decode cX9_init 35 = .ok (.invokespecial 21, 3) := by decide +kernel
theorem cdX9_init_38 : decode cX9_init 38 = .ok (.putfield 24, 3) := by decide +kernel
theorem cdX9_init_41 : decode cX9_init 41 = .ok (.aload_n 0, 1) := by decide +kernel
theorem cdX9_init_42 : decode cX9_init 42 = .ok (.new 28, 3) := by decide +kernel
theorem cdX9_init_45 : decode cX9_init 45 = .ok (.dup, 1) := by decide +kernel
theorem cdX9_init_46 : decode cX9_init 46 = .ok (.aload_n 0, 1) := by decide +kernel
theorem cdX9_init_47 : decode cX9_init 47 = .ok (.getfield 12, 3) := by decide +kernel
theorem cdX9_init_50 : decode cX9_init 50 = .ok (.aload_n 0, 1) := by decide +kernel
theorem cdX9_init_51 : decode cX9_init 51 = .ok (.getfield 24, 3) := by decide +kernel
theorem cdX9_init_54 : decode cX9_init 54 = .ok (.invokespecial 30, 3) := by decide +kernel
theorem cdX9_init_57 : decode cX9_init 57 = .ok (.putfield 33, 3) := by decide +kernel
theorem cdX9_init_60 : decode cX9_init 60 = .ok (.aload_n 0, 1) := by decide +kernel
theorem cdX9_init_61 : decode cX9_init 61 = .ok (.new 37, 3) := by decide +kernel
theorem cdX9_init_64 : decode cX9_init 64 = .ok (.dup, 1) := by decide +kernel
theorem cdX9_init_65 : decode cX9_init 65 = .ok (.aload_n 0, 1) := by decide +kernel
theorem cdX9_init_66 : decode cX9_init 66 = .ok (.getfield 12, 3) := by decide +kernel
theorem cdX9_init_69 : decode cX9_init 69 = .ok (.getfield 39, 3) := by decide +kernel
theorem cdX9_init_72 : decode cX9_init 72 = .ok (.invokespecial 43, 3) := by decide +kernel
theorem cdX9_init_75 : decode cX9_init 75 = .ok (.putfield 46, 3) := by decide +kernel
theorem cdX9_init_78 : decode cX9_init 78 = .ok (.aload_n 0, 1) := by decide +kernel
theorem cdX9_init_79 : decode cX9_init 79 = .ok (.new 50, 3) := by decide +kernel
theorem cdX9_init_82 : decode cX9_init 82 = .ok (.dup, 1) := by decide +kernel
theorem cdX9_init_83 : decode cX9_init 83 = .ok (.invokespecial 52, 3) := by decide +kernel
theorem cdX9_init_86 : decode cX9_init 86 = .ok (.putfield 53, 3) := by decide +kernel
theorem cdX9_init_89 : decode cX9_init 89 = .ok (.aload_n 0, 1) := by decide +kernel
theorem cdX9_init_90 : decode cX9_init 90 = .ok (.iconst 4, 1) := by decide +kernel
theorem cdX9_init_91 : decode cX9_init 91 = .ok (.anewarray 57, 3) := by decide +kernel
theorem cdX9_init_94 : decode cX9_init 94 = .ok (.putfield 59, 3) := by decide +kernel
theorem cdX9_init_97 : decode cX9_init 97 = .ok (.aload_n 0, 1) := by decide +kernel
theorem cdX9_init_98 : decode cX9_init 98 = .ok (.bipush 7, 2) := by decide +kernel
theorem cdX9_init_100 : decode cX9_init 100 = .ok (.newarray .int, 2) := by decide +kernel
theorem cdX9_init_102 : decode cX9_init 102 = .ok (.putfield 63, 3) := by decide +kernel
theorem cdX9_init_105 : decode cX9_init 105 = .ok (.iconst 0, 1) := by decide +kernel
theorem cdX9_init_106 : decode cX9_init 106 = .ok (.istore_n 1, 1) := by decide +kernel
theorem cdX9_init_107 : decode cX9_init 107 = .ok (.iload_n 1, 1) := by decide +kernel
theorem cdX9_init_108 : decode cX9_init 108 = .ok (.iconst 4, 1) := by decide +kernel
theorem cdX9_init_109 : decode cX9_init 109 = .ok (.if_icmp .ge 22, 3) := by decide +kernel
theorem cdX9_init_112 : decode cX9_init 112 = .ok (.aload_n 0, 1) := by decide +kernel
theorem cdX9_init_113 : decode cX9_init 113 = .ok (.getfield 59, 3) := by decide +kernel
theorem cdX9_init_116 : decode cX9_init 116 = .ok (.iload_n 1, 1) := by decide +kernel
theorem cdX9_init_117 : decode cX9_init 117 = .ok (.new 57, 3) := by decide +kernel
theorem cdX9_init_120 : decode cX9_init 120 = .ok (.dup, 1) := by decide +kernel
theorem cdX9_init_121 : decode cX9_init 121 = .ok (.invokespecial 67, 3) := by decide +kernel
theorem cdX9_init_124 : decode cX9_init 124 = .ok (.aastore, 1) := by decide +kernel
theorem cdX9_init_125 : decode cX9_init 125 = .ok (.iinc 1 1, 3) := by decide +kernel
theorem cdX9_init_128 : decode cX9_init 128 = .ok (.goto (-21), 3) := by decide +kernel
theorem cdX9_init_131 : decode cX9_init 131 = .ok (.return_, 1) := by decide +kernel
theorem cdX10_init_0 : decode cX10_init 0 = .ok (.aload_n 0, 1) := by decide +kernel
theorem cdX10_init_1 : decode cX10_init 1 = .ok (.invokespecial 1, 3) := by decide +kernel
theorem cdX10_init_4 : decode cX10_init 4 = .ok (.aload_n 0, 1) := by decide +kernel
theorem cdX10_init_5 : decode cX10_init 5 = .ok (.sipush 626, 3) := by decide +kernel
theorem cdX10_init_8 : decode cX10_init 8 = .ok (.newarray .int, 2) := by decide +kernel
theorem cdX10_init_10 : decode cX10_init 10 = .ok (.putfield 7, 3) := by decide +kernel
theorem cdX10_init_13 : decode cX10_init 13 = .ok (.aload_n 0, 1) := by decide +kernel
theorem cdX10_init_14 : decode cX10_init 14 = .ok (.sipush 626, 3) := by decide +kernel
theorem cdX10_init_17 : decode cX10_init 17 = .ok (.newarray .int, 2) := by decide +kernel
theorem cdX10_init_19 : decode cX10_init 19 = .ok (.putfield 13, 3) := by decide +kernel
theorem cdX10_init_22 : decode cX10_init 22 = .ok (.aload_n 0, 1) := by decide +kernel
theorem cdX10_init_23 : decode cX10_init 23 = .ok (.sipush 626, 3) := by decide +kernel
theorem cdX10_init_26 : decode cX10_init 26 = .ok (.newarray .int, 2) := by decide +kernel
theorem cdX10_init_28 : decode cX10_init 28 = .ok (.putfield 16, 3) := by decide +kernel
theorem cdX10_init_31 : decode cX10_init 31 = .ok (.aload_n 0, 1) := by decide +kernel
theorem cdX10_init_32 : decode cX10_init 32 = .ok (.bipush 7, 2) := by decide +kernel
theorem cdX10_init_34 : decode cX10_init 34 = .ok (.newarray .int, 2) := by decide +kernel
theorem cdX10_init_36 : decode cX10_init 36 = .ok (.putfield 19, 3) := by decide +kernel
theorem cdX10_init_39 : decode cX10_init 39 = .ok (.aload_n 0, 1) := by decide +kernel
theorem cdX10_init_40 : decode cX10_init 40 = .ok (.bipush 124, 2) := by decide +kernel
theorem cdX10_init_42 : decode cX10_init 42 = .ok (.newarray .int, 2) := by decide +kernel
theorem cdX10_init_44 : decode cX10_init 44 = .ok (.putfield 22, 3) := by decide +kernel
theorem cdX10_init_47 : decode cX10_init 47 = .ok (.aload_n 0, 1) := by decide +kernel
theorem cdX10_init_48 : decode cX10_init 48 = .ok (.sipush 128, 3) := by decide +kernel
theorem cdX10_init_51 : decode cX10_init 51 = .ok (.newarray .int, 2) := by decide +kernel
theorem cdX10_init_53 : decode cX10_init 53 = .ok (.putfield 25, 3) := by decide +kernel
theorem cdX10_init_56 : decode cX10_init 56 = .ok (.aload_n 0, 1) := by decide +kernel
theorem cdX10_init_57 : decode cX10_init 57 = .ok (.bipush 64, 2) := by decide +kernel
theorem cdX10_init_59 : decode cX10_init 59 = .ok (.newarray .int, 2) := by decide +kernel
theorem cdX10_init_61 : decode cX10_init 61 = .ok (.putfield 28, 3) := by decide +kernel
theorem cdX10_init_64 : decode cX10_init 64 = .ok (.aload_n 0, 1) := by decide +kernel
theorem cdX10_init_65 : decode cX10_init 65 = .ok (.bipush 27, 2) := by decide +kernel
theorem cdX10_init_67 : decode cX10_init 67 = .ok (.newarray .int, 2) := by decide +kernel
theorem cdX10_init_69 : decode cX10_init 69 = .ok (.putfield 31, 3) := by decide +kernel
theorem cdX10_init_72 : decode cX10_init 72 = .ok (.aload_n 0, 1) := by decide +kernel
theorem cdX10_init_73 : decode cX10_init 73 = .ok (.iconst 4, 1) := by decide +kernel
theorem cdX10_init_74 : decode cX10_init 74 = .ok (.newarray .int, 2) := by decide +kernel
theorem cdX10_init_76 : decode cX10_init 76 = .ok (.putfield 34, 3) := by decide +kernel
theorem cdX10_init_79 : decode cX10_init 79 = .ok (.aload_n 0, 1) := by decide +kernel
theorem cdX10_init_80 : decode cX10_init 80 = .ok (.iconst 4, 1) := by decide +kernel
theorem cdX10_init_81 : decode cX10_init 81 = .ok (.newarray .int, 2) := by decide +kernel
theorem cdX10_init_83 : decode cX10_init 83 = .ok (.putfield 37, 3) := by decide +kernel
theorem cdX10_init_86 : decode cX10_init 86 = .ok (.aload_n 0, 1) := by decide +kernel
theorem cdX10_init_87 : decode cX10_init 87 = .ok (.sipush 626, 3) := by decide +kernel
theorem cdX10_init_90 : decode cX10_init 90 = .ok (.newarray .int, 2) := by decide +kernel
theorem cdX10_init_92 : decode cX10_init 92 = .ok (.putfield 40, 3) := by decide +kernel
theorem cdX10_init_95 : decode cX10_init 95 = .ok (.aload_n 0, 1) := by decide +kernel
theorem cdX10_init_96 : decode cX10_init 96 = .ok (.bipush 30, 2) := by decide +kernel
theorem cdX10_init_98 : decode cX10_init 98 = .ok (.newarray .int, 2) := by decide +kernel
theorem cdX10_init_100 : decode cX10_init 100 = .ok (.putfield 43, 3) := by decide +kernel
theorem cdX10_init_103 : decode cX10_init 103 = .ok (.aload_n 0, 1) := by decide +kernel
theorem cdX10_init_104 : decode cX10_init 104 = .ok (.iconst 4, 1) := by decide +kernel
theorem cdX10_init_105 : decode cX10_init 105 = .ok (.newarray .int, 2) := by decide +kernel
theorem cdX10_init_107 : decode cX10_init 107 = .ok (.putfield 46, 3) := by decide +kernel
theorem cdX10_init_110 : decode cX10_init 110 = .ok (.aload_n 0, 1) := by decide +kernel
theorem cdX10_init_111 : decode cX10_init 111 = .ok (.iconst 4, 1) := by decide +kernel
theorem cdX10_init_112 : decode cX10_init 112 = .ok (.newarray .int, 2) := by decide +kernel
theorem cdX10_init_114 : decode cX10_init 114 = .ok (.putfield 49, 3) := by decide +kernel
theorem cdX10_init_117 : decode cX10_init 117 = .ok (.aload_n 0, 1) := by decide +kernel
theorem cdX10_init_118 : decode cX10_init 118 = .ok (.bipush 96, 2) := by decide +kernel
theorem cdX10_init_120 : decode cX10_init 120 = .ok (.newarray .int, 2) := by decide +kernel
theorem cdX10_init_122 : decode cX10_init 122 = .ok (.putfield 52, 3) := by decide +kernel
theorem cdX10_init_125 : decode cX10_init 125 = .ok (.aload_n 0, 1) := by decide +kernel
theorem cdX10_init_126 : decode cX10_init 126 = .ok (.bipush 24, 2) := by decide +kernel
theorem cdX10_init_128 : decode cX10_init 128 = .ok (.newarray .int, 2) := by decide +kernel
theorem cdX10_init_130 : decode cX10_init 130 = .ok (.putfield 55, 3) := by decide +kernel
theorem cdX10_init_133 : decode cX10_init 133 = .ok (.aload_n 0, 1) := by decide +kernel
theorem cdX10_init_134 : decode cX10_init 134 = .ok (.getfield 7, 3) := by decide +kernel
theorem cdX10_init_137 : decode cX10_init 137 = .ok (.bipush 7, 2) := by decide +kernel
theorem cdX10_init_139 : decode cX10_init 139 = .ok (.iconst 1, 1) := by decide +kernel
theorem cdX10_init_140 : decode cX10_init 140 = .ok (.iastore, 1) := by decide +kernel
theorem cdX10_init_141 : decode cX10_init 141 = .ok (.aload_n 0, 1) := by decide +kernel
theorem cdX10_init_142 : decode cX10_init 142 = .ok (.getfield 7, 3) := by decide +kernel
theorem cdX10_init_145 : decode cX10_init 145 = .ok (.iconst 2, 1) := by decide +kernel
theorem cdX10_init_146 : decode cX10_init 146 = .ok (.sipush 1000, 3) := by decide +kernel
theorem cdX10_init_149 : decode cX10_init 149 = .ok (.iastore, 1) := by decide +kernel
theorem cdX10_init_150 : decode cX10_init 150 = .ok (.iconst 0, 1) := by decide +kernel
theorem cdX10_init_151 : decode cX10_init 151 = .ok (.istore_n 1, 1) := by decide +kernel
theorem cdX10_init_152 : decode cX10_init 152 = .ok (.iload_n 1, 1) := by decide +kernel
theorem cdX10_init_153 : decode cX10_init 153 = .ok (.iconst 4, 1) := by decide +kernel
theorem cdX10_init_154 : decode cX10_init 154 = .ok (.if_icmp .ge 19, 3) := by decide +kernel
theorem cdX10_init_157 : decode cX10_init 157 = .ok (.aload_n 0, 1) := by decide +kernel
theorem cdX10_init_158 : decode cX10_init 158 = .ok (.getfield 7, 3) := by decide +kernel
theorem cdX10_init_161 : decode cX10_init 161 = .ok (.bipush 8, 2) := by decide +kernel
theorem cdX10_init_163 : decode cX10_init 163 = .ok (.iload_n 1, 1) := by decide +kernel
theorem cdX10_init_164 : decode cX10_init 164 = .ok (.iadd, 1) := by decide +kernel
theorem cdX10_init_165 : decode cX10_init 165 = .ok (.iconst 5, 1) := by decide +kernel
theorem cdX10_init_166 : decode cX10_init 166 = .ok (.iastore, 1) := by decide +kernel
theorem cdX10_init_167 : decode cX10_init 167 = .ok (.iinc 1 1, 3) := by decide +kernel
theorem cdX10_init_170 : decode cX10_init 170 = .ok (.goto (-18), 3) := by decide +kernel
theorem cdX10_init_173 : decode cX10_init 173 = .ok (.return_, 1) := by decide +kernel
