/-! words of the tables by their places; layouts; constants; links (by program) -/
def layC : List Sh := [.inr (7, [some 1, none, none, none, none, some 3, none, some 28, some 2, some 37, some 42, some 47, none, some 64, some 66]), .inl (.inl 4), .inl (.inl 4), .inl (.inr (1, 4, 1, 24)), .inr (3, [none, none, none, none, none, none, none]), .inr (3, [none, none, none, none, none, none, none]), .inr (3, [none, none, none, none, none, none, none]), .inr (3, [none, none, none, none, none, none, none]), .inr (3, [none, none, none, none, none, none, none]), .inr (3, [none, none, none, none, none, none, none]), .inr (3, [none, none, none, none, none, none, none]), .inr (3, [none, none, none, none, none, none, none]), .inr (3, [none, none, none, none, none, none, none]), .inr (3, [none, none, none, none, none, none, none]), .inr (3, [none, none, none, none, none, none, none]), .inr (3, [none, none, none, none, none, none, none]), .inr (3, [none, none, none, none, none, none, none]), .inr (3, [none, none, none, none, none, none, none]), .inr (3, [none, none, none, none, none, none, none]), .inr (3, [none, none, none, none, none, none, none]), .inr (3, [none, none, none, none, none, none, none]), .inr (3, [none, none, none, none, none, none, none]), .inr (3, [none, none, none, none, none, none, none]), .inr (3, [none, none, none, none, none, none, none]), .inr (3, [none, none, none, none, none, none, none]), .inr (3, [none, none, none, none, none, none, none]), .inr (3, [none, none, none, none, none, none, none]), .inr (3, [none, none, none, none, none, none, none]), .inl (.inr (2, 29, 2, 4)), .inr (5, [some 30, none]), .inl (.inl 8), .inr (5, [some 32, none]), .inl (.inl 8), .inr (5, [some 34, none]), .inl (.inl 8), .inr (5, [some 36, none]), .inl (.inl 8), .inr (1, [some 38, some 40, some 41]), .inr (5, [some 39, none]), .inl (.inl 60), .inl (.inl 4), .inl (.inl 60), .inr (1, [some 43, some 45, some 46]), .inr (5, [some 44, none]), .inl (.inl 60), .inl (.inl 4), .inl (.inl 60), .inl (.inr (2, 48, 2, 8)), .inr (5, [some 49, none]), .inl (.inl 8), .inr (5, [some 51, none]), .inl (.inl 8), .inr (5, [some 53, none]), .inl (.inl 8), .inr (5, [some 55, none]), .inl (.inl 8), .inr (5, [some 57, none]), .inl (.inl 8), .inr (5, [some 59, none]), .inl (.inl 8), .inr (5, [some 61, none]), .inl (.inl 8), .inr (5, [some 63, none]), .inl (.inl 8), .inr (5, [some 65, none]), .inl (.inl 60), .inr (5, [some 67, none]), .inl (.inl 24), .inr (7, [some 69, none, none, none, none, some 71, none, some 96, some 70, some 105, some 110, some 115, none, some 132, some 134]), .inl (.inl 4), .inl (.inl 4), .inl (.inr (1, 72, 1, 24)), .inr (3, [none, none, none, none, none, none, none]), .inr (3, [none, none, none, none, none, none, none]), .inr (3, [none, none, none, none, none, none, none]), .inr (3, [none, none, none, none, none, none, none]), .inr (3, [none, none, none, none, none, none, none]), .inr (3, [none, none, none, none, none, none, none]), .inr (3, [none, none, none, none, none, none, none]), .inr (3, [none, none, none, none, none, none, none]), .inr (3, [none, none, none, none, none, none, none]), .inr (3, [none, none, none, none, none, none, none]), .inr (3, [none, none, none, none, none, none, none]), .inr (3, [none, none, none, none, none, none, none]), .inr (3, [none, none, none, none, none, none, none]), .inr (3, [none, none, none, none, none, none, none]), .inr (3, [none, none, none, none, none, none, none]), .inr (3, [none, none, none, none, none, none, none]), .inr (3, [none, none, none, none, none, none, none]), .inr (3, [none, none, none, none, none, none, none]), .inr (3, [none, none, none, none, none, none, none]), .inr (3, [none, none, none, none, none, none, none]), .inr (3, [none, none, none, none, none, none, none]), .inr (3, [none, none, none, none, none, none, none]), .inr (3, [none, none, none, none, none, none, none]), .inr (3, [none, none, none, none, none, none, none]), .inl (.inr (2, 97, 2, 4)), .inr (5, [some 98, none]), .inl (.inl 8), .inr (5, [some 100, none]), .inl (.inl 8), .inr (5, [some 102, none]), .inl (.inl 8), .inr (5, [some 104, none]), .inl (.inl 8), .inr (1, [some 106, some 108, some 109]), .inr (5, [some 107, none]), .inl (.inl 60), .inl (.inl 4), .inl (.inl 60), .inr (1, [some 111, some 113, some 114]), .inr (5, [some 112, none]), .inl (.inl 60), .inl (.inl 4), .inl (.inl 60), .inl (.inr (2, 116, 2, 8)), .inr (5, [some 117, none]), .inl (.inl 8), .inr (5, [some 119, none]), .inl (.inl 8), .inr (5, [some 121, none]), .inl (.inl 8), .inr (5, [some 123, none]), .inl (.inl 8), .inr (5, [some 125, none]), .inl (.inl 8), .inr (5, [some 127, none]), .inl (.inl 8), .inr (5, [some 129, none]), .inl (.inl 8), .inr (5, [some 131, none]), .inl (.inl 8), .inr (5, [some 133, none]), .inl (.inl 60), .inr (5, [some 135, none]), .inl (.inl 24), .inr (0, [some 0, some 137, none, none]), .inl (.inr (1, 138, 1, 8)), .inr (3, [none, none, none, none, none, none, none]), .inr (3, [none, none, none, none, none, none, none]), .inr (3, [none, none, none, none, none, none, none]), .inr (3, [none, none, none, none, none, none, none]), .inr (3, [none, none, none, none, none, none, none]), .inr (3, [none, none, none, none, none, none, none]), .inr (3, [none, none, none, none, none, none, none]), .inr (3, [none, none, none, none, none, none, none]), .inr (6, [some 0, some 136, some 147, some 149, some 151, none]), .inr (5, [some 148, none]), .inl (.inl 4), .inr (5, [some 150, none]), .inl (.inl 16), .inr (5, [some 152, none]), .inl (.inl 4), .inr (2, [some 64, some 154, none]), .inr (5, [some 155, none]), .inl (.inl 60), .inr (8, [some 157, none, none, none, none]), .inr (5, [some 158, none]), .inl (.inl 30), .inl (.inr (3, 160, 3, 4)), .inr (4, [some 161, none]), .inr (5, [some 162, none]), .inl (.inl 24), .inr (4, [some 164, none]), .inr (5, [some 165, none]), .inl (.inl 24), .inr (4, [some 167, none]), .inr (5, [some 168, none]), .inl (.inl 24), .inr (4, [some 170, none]), .inr (5, [some 171, none]), .inl (.inl 24), .inl (.inl 7), .inr (9, [some 0, some 68, none, some 136, some 146, some 153, some 156, some 159, some 172])]
def layM : List Sh := [.inr (10, [some 1, some 2, some 3, none, some 4, none, none, none, none, some 5, some 6, some 7, some 8, some 9, some 10, none, none, some 11, some 12, none, none, none, some 13, some 14, some 15, some 16]), .inl (.inl 626), .inl (.inl 626), .inl (.inl 626), .inl (.inl 7), .inl (.inl 124), .inl (.inl 128), .inl (.inl 64), .inl (.inl 27), .inl (.inl 4), .inl (.inl 4), .inl (.inl 626), .inl (.inl 30), .inl (.inl 4), .inl (.inl 4), .inl (.inl 96), .inl (.inl 24)]
def DPR : Nat := 80
def DPV : Nat := 45
def DPM : Nat := 80
def DPT : Nat := 8
theorem ci_0 : Int32.ofInt (0) = (0 : Int32) := by decide +kernel
theorem ci_1 : Int32.ofInt (1) = (1 : Int32) := by decide +kernel
theorem cb_23 : (Int8.ofInt (23)).toInt32 = (23 : Int32) := by decide +kernel
theorem cb_8 : (Int8.ofInt (8)).toInt32 = (8 : Int32) := by decide +kernel
theorem ci_3 : Int32.ofInt (3) = (3 : Int32) := by decide +kernel
theorem ci_4 : Int32.ofInt (4) = (4 : Int32) := by decide +kernel
theorem cb_10 : (Int8.ofInt (10)).toInt32 = (10 : Int32) := by decide +kernel
theorem ci_2 : Int32.ofInt (2) = (2 : Int32) := by decide +kernel
theorem cb_9 : (Int8.ofInt (9)).toInt32 = (9 : Int32) := by decide +kernel
theorem ci_5 : Int32.ofInt (5) = (5 : Int32) := by decide +kernel
theorem ci_m1 : Int32.ofInt (-1) = (-1 : Int32) := by decide +kernel
theorem cb_m4 : (Int8.ofInt (-4)).toInt32 = (-4 : Int32) := by decide +kernel
theorem cb_m33 : (Int8.ofInt (-33)).toInt32 = (-33 : Int32) := by decide +kernel
theorem cb_99 : (Int8.ofInt (99)).toInt32 = (99 : Int32) := by decide +kernel
theorem cb_124 : (Int8.ofInt (124)).toInt32 = (124 : Int32) := by decide +kernel
theorem cb_38 : (Int8.ofInt (38)).toInt32 = (38 : Int32) := by decide +kernel
theorem cb_60 : (Int8.ofInt (60)).toInt32 = (60 : Int32) := by decide +kernel
theorem cb_62 : (Int8.ofInt (62)).toInt32 = (62 : Int32) := by decide +kernel
theorem cb_43 : (Int8.ofInt (43)).toInt32 = (43 : Int32) := by decide +kernel
theorem cb_45 : (Int8.ofInt (45)).toInt32 = (45 : Int32) := by decide +kernel
theorem cb_42 : (Int8.ofInt (42)).toInt32 = (42 : Int32) := by decide +kernel
theorem cb_47 : (Int8.ofInt (47)).toInt32 = (47 : Int32) := by decide +kernel
theorem cb_37 : (Int8.ofInt (37)).toInt32 = (37 : Int32) := by decide +kernel
theorem cb_48 : (Int8.ofInt (48)).toInt32 = (48 : Int32) := by decide +kernel
theorem cb_57 : (Int8.ofInt (57)).toInt32 = (57 : Int32) := by decide +kernel
theorem cs_255 : (Int16.ofInt (255)).toInt32 = (255 : Int32) := by decide +kernel
theorem cb_33 : (Int8.ofInt (33)).toInt32 = (33 : Int32) := by decide +kernel
theorem cb_40 : (Int8.ofInt (40)).toInt32 = (40 : Int32) := by decide +kernel
theorem cb_41 : (Int8.ofInt (41)).toInt32 = (41 : Int32) := by decide +kernel
theorem cb_7 : (Int8.ofInt (7)).toInt32 = (7 : Int32) := by decide +kernel
theorem cb_6 : (Int8.ofInt (6)).toInt32 = (6 : Int32) := by decide +kernel
theorem cb_24 : (Int8.ofInt (24)).toInt32 = (24 : Int32) := by decide +kernel
theorem cb_69 : (Int8.ofInt (69)).toInt32 = (69 : Int32) := by decide +kernel
theorem cb_26 : (Int8.ofInt (26)).toInt32 = (26 : Int32) := by decide +kernel
theorem cs_999 : (Int16.ofInt (999)).toInt32 = (999 : Int32) := by decide +kernel
theorem cb_97 : (Int8.ofInt (97)).toInt32 = (97 : Int32) := by decide +kernel
theorem cb_122 : (Int8.ofInt (122)).toInt32 = (122 : Int32) := by decide +kernel
theorem cs_12345 : (Int16.ofInt (12345)).toInt32 = (12345 : Int32) := by decide +kernel
theorem cb_m9 : (Int8.ofInt (-9)).toInt32 = (-9 : Int32) := by decide +kernel
theorem cb_20 : (Int8.ofInt (20)).toInt32 = (20 : Int32) := by decide +kernel
theorem cs_9999 : (Int16.ofInt (9999)).toInt32 = (9999 : Int32) := by decide +kernel
theorem cb_m10 : (Int8.ofInt (-10)).toInt32 = (-10 : Int32) := by decide +kernel
theorem cb_100 : (Int8.ofInt (100)).toInt32 = (100 : Int32) := by decide +kernel
theorem cb_30 : (Int8.ofInt (30)).toInt32 = (30 : Int32) := by decide +kernel
theorem cb_16 : (Int8.ofInt (16)).toInt32 = (16 : Int32) := by decide +kernel
theorem cb_32 : (Int8.ofInt (32)).toInt32 = (32 : Int32) := by decide +kernel
theorem cb_13 : (Int8.ofInt (13)).toInt32 = (13 : Int32) := by decide +kernel
theorem cs_626 : (Int16.ofInt (626)).toInt32 = (626 : Int32) := by decide +kernel
theorem cb_12 : (Int8.ofInt (12)).toInt32 = (12 : Int32) := by decide +kernel
theorem cs_180 : (Int16.ofInt (180)).toInt32 = (180 : Int32) := by decide +kernel
theorem cs_542 : (Int16.ofInt (542)).toInt32 = (542 : Int32) := by decide +kernel
theorem cb_114 : (Int8.ofInt (114)).toInt32 = (114 : Int32) := by decide +kernel
theorem cb_115 : (Int8.ofInt (115)).toInt32 = (115 : Int32) := by decide +kernel
theorem cb_103 : (Int8.ofInt (103)).toInt32 = (103 : Int32) := by decide +kernel
theorem cb_105 : (Int8.ofInt (105)).toInt32 = (105 : Int32) := by decide +kernel
theorem cb_109 : (Int8.ofInt (109)).toInt32 = (109 : Int32) := by decide +kernel
theorem cb_61 : (Int8.ofInt (61)).toInt32 = (61 : Int32) := by decide +kernel
theorem cs_292 : (Int16.ofInt (292)).toInt32 = (292 : Int32) := by decide +kernel
theorem cb_125 : (Int8.ofInt (125)).toInt32 = (125 : Int32) := by decide +kernel
theorem cs_220 : (Int16.ofInt (220)).toInt32 = (220 : Int32) := by decide +kernel
theorem cb_27 : (Int8.ofInt (27)).toInt32 = (27 : Int32) := by decide +kernel
theorem cb_70 : (Int8.ofInt (70)).toInt32 = (70 : Int32) := by decide +kernel
theorem cb_11 : (Int8.ofInt (11)).toInt32 = (11 : Int32) := by decide +kernel
theorem cb_50 : (Int8.ofInt (50)).toInt32 = (50 : Int32) := by decide +kernel
theorem cb_71 : (Int8.ofInt (71)).toInt32 = (71 : Int32) := by decide +kernel
theorem cb_21 : (Int8.ofInt (21)).toInt32 = (21 : Int32) := by decide +kernel
theorem cs_602 : (Int16.ofInt (602)).toInt32 = (602 : Int32) := by decide +kernel
theorem q_0 : gw (.selects RX9 yX9_refuse yX9_refuse) := ⟨List.mem_of_getElem? (i := 0) (by decide +kernel), rfl⟩
theorem q_1 : gw (.selects RX2 yX2_readLevel yX2_readLevel) := ⟨List.mem_of_getElem? (i := 1) (by decide +kernel), rfl⟩
theorem q_2 : gw (.selects RX2 yX2_readPart yX2_readPart) := ⟨List.mem_of_getElem? (i := 2) (by decide +kernel), rfl⟩
theorem q_3 : gw (.selects RX2 yX2_readNumber yX2_readNumber) := ⟨List.mem_of_getElem? (i := 3) (by decide +kernel), rfl⟩
theorem q_4 : gw (.selects RX2 yX2_readOpened yX2_readOpened) := ⟨List.mem_of_getElem? (i := 4) (by decide +kernel), rfl⟩
theorem q_5 : gw (.selects RX2 yX2_isJoining yX2_isJoining) := ⟨List.mem_of_getElem? (i := 5) (by decide +kernel), rfl⟩
theorem q_6 : gw (.selects RX7 yX7_timesUpTo yX7_timesUpTo) := ⟨List.mem_of_getElem? (i := 6) (by decide +kernel), rfl⟩
theorem q_7 : gw (.selects RX6 yX6_clearInTurn yX6_clearInTurn) := ⟨List.mem_of_getElem? (i := 7) (by decide +kernel), rfl⟩
theorem q_8 : gw (.selects RX6 yX6_clearOfRow yX6_clearOfRow) := ⟨List.mem_of_getElem? (i := 8) (by decide +kernel), rfl⟩
theorem q_9 : gw (.selects RX8 yX8_speak yX8_speak) := ⟨List.mem_of_getElem? (i := 9) (by decide +kernel), rfl⟩
theorem q_10 : gw (.selects RX8 yX8_part yX8_part) := ⟨List.mem_of_getElem? (i := 10) (by decide +kernel), rfl⟩
theorem q_11 : gw (.selects RX8 yX8_castThinly yX8_castThinly) := ⟨List.mem_of_getElem? (i := 11) (by decide +kernel), rfl⟩
theorem q_12 : gw (.selects RX10 yX10_whyNotCast yX10_whyNotCast) := ⟨List.mem_of_getElem? (i := 12) (by decide +kernel), rfl⟩
theorem q_13 : gw (.selects RX10 yX10_error yX10_error) := ⟨List.mem_of_getElem? (i := 13) (by decide +kernel), rfl⟩
theorem q_14 : gw (.selects RX10 yX10_casts1 yX10_casts1) := ⟨List.mem_of_getElem? (i := 14) (by decide +kernel), rfl⟩
theorem q_15 : gw (.selects RX10 yX10_lays1 yX10_lays1) := ⟨List.mem_of_getElem? (i := 15) (by decide +kernel), rfl⟩
theorem q_16 : gw (.selects RX10 yX10_whole yX10_whole) := ⟨List.mem_of_getElem? (i := 16) (by decide +kernel), rfl⟩
theorem q_17 : gw (.selects RX10 yX10_both yX10_both) := ⟨List.mem_of_getElem? (i := 17) (by decide +kernel), rfl⟩
theorem q_18 : gw (.selects RX10 yX10_compared yX10_compared) := ⟨List.mem_of_getElem? (i := 18) (by decide +kernel), rfl⟩
theorem q_19 : gw (.selects RX10 yX10_sum yX10_sum) := ⟨List.mem_of_getElem? (i := 19) (by decide +kernel), rfl⟩
theorem q_20 : gw (.selects RX10 yX10_product yX10_product) := ⟨List.mem_of_getElem? (i := 20) (by decide +kernel), rfl⟩
theorem q_21 : gw (.selects RX10 yX10_one yX10_one) := ⟨List.mem_of_getElem? (i := 21) (by decide +kernel), rfl⟩
theorem q_22 : gw (.selects RX10 yX10_look yX10_look) := ⟨List.mem_of_getElem? (i := 22) (by decide +kernel), rfl⟩
theorem q_23 : gw (.selects RX10 yX10_isName yX10_isName) := ⟨List.mem_of_getElem? (i := 23) (by decide +kernel), rfl⟩
theorem q_24 : gw (.selects RX10 yX10_lays yX10_lays) := ⟨List.mem_of_getElem? (i := 24) (by decide +kernel), rfl⟩
theorem q_25 : gw (.selects RX10 yX10_opens yX10_opens) := ⟨List.mem_of_getElem? (i := 25) (by decide +kernel), rfl⟩
theorem q_26 : gw (.selects RX10 yX10_hasText yX10_hasText) := ⟨List.mem_of_getElem? (i := 26) (by decide +kernel), rfl⟩
theorem q_27 : gw (.selects RX10 yX10_isLetter yX10_isLetter) := ⟨List.mem_of_getElem? (i := 27) (by decide +kernel), rfl⟩
theorem q_28 : gw (.selects RX10 yX10_toldLetter yX10_toldLetter) := ⟨List.mem_of_getElem? (i := 28) (by decide +kernel), rfl⟩
theorem q_29 : gw (.selects RX10 yX10_melts yX10_melts) := ⟨List.mem_of_getElem? (i := 29) (by decide +kernel), rfl⟩
theorem q_30 : gw (.selects RX10 yX10_its yX10_its) := ⟨List.mem_of_getElem? (i := 30) (by decide +kernel), rfl⟩
theorem q_31 : gw (.selects RX10 yX10_cold yX10_cold) := ⟨List.mem_of_getElem? (i := 31) (by decide +kernel), rfl⟩
theorem q_32 : gw (.selects RX10 yX10_dripsTold yX10_dripsTold) := ⟨List.mem_of_getElem? (i := 32) (by decide +kernel), rfl⟩
theorem q_33 : gw (.selects RX10 yX10_worked yX10_worked) := ⟨List.mem_of_getElem? (i := 33) (by decide +kernel), rfl⟩
theorem q_34 : gw (.selects RX10 yX10_read yX10_read) := ⟨List.mem_of_getElem? (i := 34) (by decide +kernel), rfl⟩
theorem q_35 : gw (.selects RX10 yX10_sees yX10_sees) := ⟨List.mem_of_getElem? (i := 35) (by decide +kernel), rfl⟩
theorem q_36 : gw (.selects RX10 yX10_of yX10_of) := ⟨List.mem_of_getElem? (i := 36) (by decide +kernel), rfl⟩
theorem q_37 : gw (.selects RX10 yX10_drips yX10_drips) := ⟨List.mem_of_getElem? (i := 37) (by decide +kernel), rfl⟩
theorem q_38 : gw (.selects RX10 yX10_caseOf yX10_caseOf) := ⟨List.mem_of_getElem? (i := 38) (by decide +kernel), rfl⟩
theorem q_39 : gw (.selects RX10 yX10_seen yX10_seen) := ⟨List.mem_of_getElem? (i := 39) (by decide +kernel), rfl⟩
theorem q_40 : gw (.selects RX10 yX10_sheet1 yX10_sheet1) := ⟨List.mem_of_getElem? (i := 40) (by decide +kernel), rfl⟩
theorem q_41 : gw (.selects RX10 yX10_meltsAll yX10_meltsAll) := ⟨List.mem_of_getElem? (i := 41) (by decide +kernel), rfl⟩
theorem q_42 : gw (.selects RX10 yX10_runOf yX10_runOf) := ⟨List.mem_of_getElem? (i := 42) (by decide +kernel), rfl⟩
theorem q_43 : gw (.selects RX10 yX10_tries yX10_tries) := ⟨List.mem_of_getElem? (i := 43) (by decide +kernel), rfl⟩
theorem q_44 : gw (.selects RX10 yX10_clearBy yX10_clearBy) := ⟨List.mem_of_getElem? (i := 44) (by decide +kernel), rfl⟩
theorem q_45 : gw (.selects RX10 yX10_runIn yX10_runIn) := ⟨List.mem_of_getElem? (i := 45) (by decide +kernel), rfl⟩
theorem q_46 : gw (.selects RX10 yX10_lasts yX10_lasts) := ⟨List.mem_of_getElem? (i := 46) (by decide +kernel), rfl⟩
theorem q_47 : gw (.selects RX10 yX10_maySay yX10_maySay) := ⟨List.mem_of_getElem? (i := 47) (by decide +kernel), rfl⟩
theorem q_48 : gw (.selects RX10 yX10_day yX10_day) := ⟨List.mem_of_getElem? (i := 48) (by decide +kernel), rfl⟩
theorem q_49 : gw (.selects RX10 yX10_draw yX10_draw) := ⟨List.mem_of_getElem? (i := 49) (by decide +kernel), rfl⟩
theorem q_50 : gw (.selects RX10 yX10_kindNow yX10_kindNow) := ⟨List.mem_of_getElem? (i := 50) (by decide +kernel), rfl⟩
theorem q_51 : gw (.selects RX10 yX10_meltsBy yX10_meltsBy) := ⟨List.mem_of_getElem? (i := 51) (by decide +kernel), rfl⟩
theorem q_52 : gw (.selects RX10 yX10_begins yX10_begins) := ⟨List.mem_of_getElem? (i := 52) (by decide +kernel), rfl⟩
theorem q_53 : gw (.selects RX10 yX10_readsBy yX10_readsBy) := ⟨List.mem_of_getElem? (i := 53) (by decide +kernel), rfl⟩
theorem q_54 : gw (.selects RX10 yX10_mNow yX10_mNow) := ⟨List.mem_of_getElem? (i := 54) (by decide +kernel), rfl⟩
theorem q_55 : gw (.selects RX10 yX10_dripsBy yX10_dripsBy) := ⟨List.mem_of_getElem? (i := 55) (by decide +kernel), rfl⟩
theorem q_56 : gw (.selects RX10 yX10_castsBy yX10_castsBy) := ⟨List.mem_of_getElem? (i := 56) (by decide +kernel), rfl⟩
theorem q_57 : gw (.selects RX10 yX10_lacks yX10_lacks) := ⟨List.mem_of_getElem? (i := 57) (by decide +kernel), rfl⟩
theorem q_58 : gw (.selects RX10 yX10_allIce yX10_allIce) := ⟨List.mem_of_getElem? (i := 58) (by decide +kernel), rfl⟩
theorem q_60 : gw (.initialized RX9) := ⟨List.mem_of_getElem? (i := 60) (by decide +kernel), rfl⟩
theorem q_61 : gw (.initialized RX7) := ⟨List.mem_of_getElem? (i := 61) (by decide +kernel), rfl⟩
theorem q_62 : gw (.initialized RX1) := ⟨List.mem_of_getElem? (i := 62) (by decide +kernel), rfl⟩
theorem q_63 : gw (.initialized RX5) := ⟨List.mem_of_getElem? (i := 63) (by decide +kernel), rfl⟩
theorem q_64 : gw (.initialized RJ9) := ⟨List.mem_of_getElem? (i := 64) (by decide +kernel), rfl⟩
theorem q_65 : gw (.initialized RX3) := ⟨List.mem_of_getElem? (i := 65) (by decide +kernel), rfl⟩
theorem q_66 : gw (.initialized RX0) := ⟨List.mem_of_getElem? (i := 66) (by decide +kernel), rfl⟩
theorem q_67 : gw (.initialized RX6) := ⟨List.mem_of_getElem? (i := 67) (by decide +kernel), rfl⟩
theorem q_68 : gw (.initialized RX2) := ⟨List.mem_of_getElem? (i := 68) (by decide +kernel), rfl⟩
theorem q_69 : gw (.initialized RX8) := ⟨List.mem_of_getElem? (i := 69) (by decide +kernel), rfl⟩
theorem q_70 : gw (.initialized RX4) := ⟨List.mem_of_getElem? (i := 70) (by decide +kernel), rfl⟩
theorem q_71 : gw (.initialized RX10) := ⟨List.mem_of_getElem? (i := 71) (by decide +kernel), rfl⟩
theorem q_72 : gw (.initialized RJ0) := ⟨List.mem_of_getElem? (i := 72) (by decide +kernel), rfl⟩
theorem q_73 : gw (.initialized RJ1) := ⟨List.mem_of_getElem? (i := 73) (by decide +kernel), rfl⟩
theorem q_77 : gw (.initialized RJ10) := ⟨List.mem_of_getElem? (i := 77) (by decide +kernel), rfl⟩
theorem q_109 : gw (.static Lib.Math.max.name) := ⟨List.mem_of_getElem? (i := 109) (by decide +kernel), rfl⟩
theorem q_110 : gw (.code Lib.Math.max.name Lib.Math.max.code 2 (some .int)) := ⟨List.mem_of_getElem? (i := 110) (by decide +kernel), rfl⟩
theorem q_111 : gw (.fieldLink RX5 13 RX5 (TX5 0).2.1 (TX5 0).2.2.1) := ⟨List.mem_of_getElem? (i := 111) (by decide +kernel), rfl⟩
theorem q_112 : nw (.fieldLinkNest RX1 31 RX5 (TX5 0).2.1 (TX5 0).2.2.1 RX9) := ⟨List.mem_of_getElem? (i := 112) (by decide +kernel), rfl⟩
theorem q_113 : gw (.fieldLink RX5 19 RX5 (TX5 1).2.1 (TX5 1).2.2.1) := ⟨List.mem_of_getElem? (i := 113) (by decide +kernel), rfl⟩
theorem q_114 : nw (.fieldLinkNest RX1 27 RX5 (TX5 1).2.1 (TX5 1).2.2.1 RX9) := ⟨List.mem_of_getElem? (i := 114) (by decide +kernel), rfl⟩
theorem q_115 : nw (.fieldLinkNest RX0 28 RX5 (TX5 1).2.1 (TX5 1).2.2.1 RX9) := ⟨List.mem_of_getElem? (i := 115) (by decide +kernel), rfl⟩
theorem q_116 : nw (.fieldLinkNest RX6 43 RX5 (TX5 1).2.1 (TX5 1).2.2.1 RX9) := ⟨List.mem_of_getElem? (i := 116) (by decide +kernel), rfl⟩
theorem q_117 : nw (.fieldLinkNest RX2 34 RX5 (TX5 1).2.1 (TX5 1).2.2.1 RX9) := ⟨List.mem_of_getElem? (i := 117) (by decide +kernel), rfl⟩
theorem q_118 : nw (.fieldLinkNest RX9 141 RX5 (TX5 1).2.1 (TX5 1).2.2.1 RX9) := ⟨List.mem_of_getElem? (i := 118) (by decide +kernel), rfl⟩
theorem q_119 : nw (.fieldLinkNest RX7 166 RX5 (TX5 1).2.1 (TX5 1).2.2.1 RX9) := ⟨List.mem_of_getElem? (i := 119) (by decide +kernel), rfl⟩
theorem q_120 : gw (.laysFinal RX5 RX5 "numbers" "[I") := ⟨List.mem_of_getElem? (i := 120) (by decide +kernel), rfl⟩
theorem q_122 : gw (.lays RX5 RX5 "length" "I") := ⟨List.mem_of_getElem? (i := 122) (by decide +kernel), rfl⟩
theorem q_126 : gw (.fieldLink RX1 14 RX1 (TX1 0).2.1 (TX1 0).2.2.1) := ⟨List.mem_of_getElem? (i := 126) (by decide +kernel), rfl⟩
theorem q_127 : nw (.fieldLinkNest RX7 86 RX1 (TX1 0).2.1 (TX1 0).2.2.1 RX9) := ⟨List.mem_of_getElem? (i := 127) (by decide +kernel), rfl⟩
theorem q_128 : nw (.fieldLinkNest RX9 165 RX1 (TX1 0).2.1 (TX1 0).2.2.1 RX9) := ⟨List.mem_of_getElem? (i := 128) (by decide +kernel), rfl⟩
theorem q_129 : gw (.fieldLink RX1 20 RX1 (TX1 1).2.1 (TX1 1).2.2.1) := ⟨List.mem_of_getElem? (i := 129) (by decide +kernel), rfl⟩
theorem q_130 : gw (.fieldLink RX1 24 RX1 (TX1 2).2.1 (TX1 2).2.2.1) := ⟨List.mem_of_getElem? (i := 130) (by decide +kernel), rfl⟩
theorem q_131 : gw (.laysFinal RX1 RX1 "codes" "LIceType$Row;") := ⟨List.mem_of_getElem? (i := 131) (by decide +kernel), rfl⟩
theorem q_133 : gw (.laysFinal RX1 RX1 "names" "[I") := ⟨List.mem_of_getElem? (i := 133) (by decide +kernel), rfl⟩
theorem q_135 : gw (.laysFinal RX1 RX1 "values" "[I") := ⟨List.mem_of_getElem? (i := 135) (by decide +kernel), rfl⟩
theorem q_144 : gw (.fieldLink RX3 15 RX3 (TX3 0).2.1 (TX3 0).2.2.1) := ⟨List.mem_of_getElem? (i := 144) (by decide +kernel), rfl⟩
theorem q_145 : nw (.fieldLinkNest RX8 27 RX3 (TX3 0).2.1 (TX3 0).2.2.1 RX9) := ⟨List.mem_of_getElem? (i := 145) (by decide +kernel), rfl⟩
theorem q_146 : nw (.fieldLinkNest RX7 109 RX3 (TX3 0).2.1 (TX3 0).2.2.1 RX9) := ⟨List.mem_of_getElem? (i := 146) (by decide +kernel), rfl⟩
theorem q_147 : gw (.fieldLink RX3 18 RX3 (TX3 1).2.1 (TX3 1).2.2.1) := ⟨List.mem_of_getElem? (i := 147) (by decide +kernel), rfl⟩
theorem q_148 : nw (.fieldLinkNest RX8 34 RX3 (TX3 1).2.1 (TX3 1).2.2.1 RX9) := ⟨List.mem_of_getElem? (i := 148) (by decide +kernel), rfl⟩
theorem q_149 : nw (.fieldLinkNest RX7 112 RX3 (TX3 1).2.1 (TX3 1).2.2.1 RX9) := ⟨List.mem_of_getElem? (i := 149) (by decide +kernel), rfl⟩
theorem q_150 : gw (.fieldLink RX3 21 RX3 (TX3 2).2.1 (TX3 2).2.2.1) := ⟨List.mem_of_getElem? (i := 150) (by decide +kernel), rfl⟩
theorem q_151 : nw (.fieldLinkNest RX7 115 RX3 (TX3 2).2.1 (TX3 2).2.2.1 RX9) := ⟨List.mem_of_getElem? (i := 151) (by decide +kernel), rfl⟩
theorem q_152 : gw (.fieldLink RX3 24 RX3 (TX3 3).2.1 (TX3 3).2.2.1) := ⟨List.mem_of_getElem? (i := 152) (by decide +kernel), rfl⟩
theorem q_153 : nw (.fieldLinkNest RX9 105 RX3 (TX3 3).2.1 (TX3 3).2.2.1 RX9) := ⟨List.mem_of_getElem? (i := 153) (by decide +kernel), rfl⟩
theorem q_154 : nw (.fieldLinkNest RX7 118 RX3 (TX3 3).2.1 (TX3 3).2.2.1 RX9) := ⟨List.mem_of_getElem? (i := 154) (by decide +kernel), rfl⟩
theorem q_155 : gw (.fieldLink RX3 27 RX3 (TX3 4).2.1 (TX3 4).2.2.1) := ⟨List.mem_of_getElem? (i := 155) (by decide +kernel), rfl⟩
theorem q_156 : nw (.fieldLinkNest RX0 59 RX3 (TX3 4).2.1 (TX3 4).2.2.1 RX9) := ⟨List.mem_of_getElem? (i := 156) (by decide +kernel), rfl⟩
theorem q_157 : nw (.fieldLinkNest RX7 121 RX3 (TX3 4).2.1 (TX3 4).2.2.1 RX9) := ⟨List.mem_of_getElem? (i := 157) (by decide +kernel), rfl⟩
theorem q_158 : gw (.fieldLink RX3 9 RX3 (TX3 5).2.1 (TX3 5).2.2.1) := ⟨List.mem_of_getElem? (i := 158) (by decide +kernel), rfl⟩
theorem q_159 : nw (.fieldLinkNest RX9 117 RX3 (TX3 5).2.1 (TX3 5).2.2.1 RX9) := ⟨List.mem_of_getElem? (i := 159) (by decide +kernel), rfl⟩
theorem q_160 : nw (.fieldLinkNest RX7 124 RX3 (TX3 5).2.1 (TX3 5).2.2.1 RX9) := ⟨List.mem_of_getElem? (i := 160) (by decide +kernel), rfl⟩
theorem q_161 : gw (.fieldLink RX3 30 RX3 (TX3 6).2.1 (TX3 6).2.2.1) := ⟨List.mem_of_getElem? (i := 161) (by decide +kernel), rfl⟩
theorem q_162 : nw (.fieldLinkNest RX7 127 RX3 (TX3 6).2.1 (TX3 6).2.2.1 RX9) := ⟨List.mem_of_getElem? (i := 162) (by decide +kernel), rfl⟩
theorem q_163 : gw (.lays RX3 RX3 "kind" "I") := ⟨List.mem_of_getElem? (i := 163) (by decide +kernel), rfl⟩
theorem q_165 : gw (.lays RX3 RX3 "m" "I") := ⟨List.mem_of_getElem? (i := 165) (by decide +kernel), rfl⟩
theorem q_167 : gw (.lays RX3 RX3 "glyph" "I") := ⟨List.mem_of_getElem? (i := 167) (by decide +kernel), rfl⟩
theorem q_169 : gw (.lays RX3 RX3 "ice" "I") := ⟨List.mem_of_getElem? (i := 169) (by decide +kernel), rfl⟩
theorem q_171 : gw (.lays RX3 RX3 "room" "I") := ⟨List.mem_of_getElem? (i := 171) (by decide +kernel), rfl⟩
theorem q_173 : gw (.lays RX3 RX3 "page" "I") := ⟨List.mem_of_getElem? (i := 173) (by decide +kernel), rfl⟩
theorem q_175 : gw (.lays RX3 RX3 "age" "I") := ⟨List.mem_of_getElem? (i := 175) (by decide +kernel), rfl⟩
theorem q_178 : gw (.fieldLink RX7 9 RX7 (TX7 0).2.1 (TX7 0).2.2.1) := ⟨List.mem_of_getElem? (i := 178) (by decide +kernel), rfl⟩
theorem q_179 : nw (.fieldLinkNest RX9 131 RX7 (TX7 0).2.1 (TX7 0).2.2.1 RX9) := ⟨List.mem_of_getElem? (i := 179) (by decide +kernel), rfl⟩
theorem q_180 : gw (.fieldLink RX7 15 RX7 (TX7 1).2.1 (TX7 1).2.2.1) := ⟨List.mem_of_getElem? (i := 180) (by decide +kernel), rfl⟩
theorem q_181 : nw (.fieldLinkNest RX9 135 RX7 (TX7 1).2.1 (TX7 1).2.2.1 RX9) := ⟨List.mem_of_getElem? (i := 181) (by decide +kernel), rfl⟩
theorem q_182 : gw (.fieldLink RX7 67 RX7 (TX7 2).2.1 (TX7 2).2.2.1) := ⟨List.mem_of_getElem? (i := 182) (by decide +kernel), rfl⟩
theorem q_183 : nw (.fieldLinkNest RX9 138 RX7 (TX7 2).2.1 (TX7 2).2.2.1 RX9) := ⟨List.mem_of_getElem? (i := 183) (by decide +kernel), rfl⟩
theorem q_184 : gw (.fieldLink RX7 70 RX7 (TX7 3).2.1 (TX7 3).2.2.1) := ⟨List.mem_of_getElem? (i := 184) (by decide +kernel), rfl⟩
theorem q_185 : nw (.fieldLinkNest RX9 128 RX7 (TX7 3).2.1 (TX7 3).2.2.1 RX9) := ⟨List.mem_of_getElem? (i := 185) (by decide +kernel), rfl⟩
theorem q_186 : gw (.fieldLink RX7 19 RX7 (TX7 4).2.1 (TX7 4).2.2.1) := ⟨List.mem_of_getElem? (i := 186) (by decide +kernel), rfl⟩
theorem q_187 : nw (.fieldLinkNest RX9 255 RX7 (TX7 4).2.1 (TX7 4).2.2.1 RX9) := ⟨List.mem_of_getElem? (i := 187) (by decide +kernel), rfl⟩
theorem q_188 : gw (.fieldLink RX7 24 RX7 (TX7 5).2.1 (TX7 5).2.2.1) := ⟨List.mem_of_getElem? (i := 188) (by decide +kernel), rfl⟩
theorem q_189 : nw (.fieldLinkNest RX9 88 RX7 (TX7 5).2.1 (TX7 5).2.2.1 RX9) := ⟨List.mem_of_getElem? (i := 189) (by decide +kernel), rfl⟩
theorem q_190 : gw (.fieldLink RX7 73 RX7 (TX7 6).2.1 (TX7 6).2.2.1) := ⟨List.mem_of_getElem? (i := 190) (by decide +kernel), rfl⟩
theorem q_191 : nw (.fieldLinkNest RX9 309 RX7 (TX7 6).2.1 (TX7 6).2.2.1 RX9) := ⟨List.mem_of_getElem? (i := 191) (by decide +kernel), rfl⟩
theorem q_192 : gw (.fieldLink RX7 30 RX7 (TX7 7).2.1 (TX7 7).2.2.1) := ⟨List.mem_of_getElem? (i := 192) (by decide +kernel), rfl⟩
theorem q_193 : nw (.fieldLinkNest RX0 22 RX7 (TX7 7).2.1 (TX7 7).2.2.1 RX9) := ⟨List.mem_of_getElem? (i := 193) (by decide +kernel), rfl⟩
theorem q_194 : nw (.fieldLinkNest RX6 37 RX7 (TX7 7).2.1 (TX7 7).2.2.1 RX9) := ⟨List.mem_of_getElem? (i := 194) (by decide +kernel), rfl⟩
theorem q_195 : nw (.fieldLinkNest RX9 195 RX7 (TX7 7).2.1 (TX7 7).2.2.1 RX9) := ⟨List.mem_of_getElem? (i := 195) (by decide +kernel), rfl⟩
theorem q_196 : gw (.fieldLink RX7 34 RX7 (TX7 8).2.1 (TX7 8).2.2.1) := ⟨List.mem_of_getElem? (i := 196) (by decide +kernel), rfl⟩
theorem q_197 : nw (.fieldLinkNest RX0 41 RX7 (TX7 8).2.1 (TX7 8).2.2.1 RX9) := ⟨List.mem_of_getElem? (i := 197) (by decide +kernel), rfl⟩
theorem q_198 : nw (.fieldLinkNest RX9 201 RX7 (TX7 8).2.1 (TX7 8).2.2.1 RX9) := ⟨List.mem_of_getElem? (i := 198) (by decide +kernel), rfl⟩
theorem q_199 : gw (.fieldLink RX7 40 RX7 (TX7 9).2.1 (TX7 9).2.2.1) := ⟨List.mem_of_getElem? (i := 199) (by decide +kernel), rfl⟩
theorem q_200 : gw (.fieldLink RX7 44 RX7 (TX7 10).2.1 (TX7 10).2.2.1) := ⟨List.mem_of_getElem? (i := 200) (by decide +kernel), rfl⟩
theorem q_201 : gw (.fieldLink RX7 47 RX7 (TX7 11).2.1 (TX7 11).2.2.1) := ⟨List.mem_of_getElem? (i := 201) (by decide +kernel), rfl⟩
theorem q_202 : nw (.fieldLinkNest RX9 185 RX7 (TX7 11).2.1 (TX7 11).2.2.1 RX9) := ⟨List.mem_of_getElem? (i := 202) (by decide +kernel), rfl⟩
theorem q_203 : gw (.fieldLink RX7 76 RX7 (TX7 12).2.1 (TX7 12).2.2.1) := ⟨List.mem_of_getElem? (i := 203) (by decide +kernel), rfl⟩
theorem q_204 : nw (.fieldLinkNest RX9 178 RX7 (TX7 12).2.1 (TX7 12).2.2.1 RX9) := ⟨List.mem_of_getElem? (i := 204) (by decide +kernel), rfl⟩
theorem q_205 : nw (.fieldLinkNest RX9 39 RX7 (TX7 13).2.1 (TX7 13).2.2.1 RX9) := ⟨List.mem_of_getElem? (i := 205) (by decide +kernel), rfl⟩
theorem q_206 : gw (.fieldLink RX7 53 RX7 (TX7 13).2.1 (TX7 13).2.2.1) := ⟨List.mem_of_getElem? (i := 206) (by decide +kernel), rfl⟩
theorem q_207 : gw (.fieldLink RX7 57 RX7 (TX7 14).2.1 (TX7 14).2.2.1) := ⟨List.mem_of_getElem? (i := 207) (by decide +kernel), rfl⟩
theorem q_208 : nw (.fieldLinkNest RX9 303 RX7 (TX7 14).2.1 (TX7 14).2.2.1 RX9) := ⟨List.mem_of_getElem? (i := 208) (by decide +kernel), rfl⟩
theorem q_209 : gw (.laysFinal RX7 RX7 "cold" "[I") := ⟨List.mem_of_getElem? (i := 209) (by decide +kernel), rfl⟩
theorem q_211 : gw (.lays RX7 RX7 "water" "I") := ⟨List.mem_of_getElem? (i := 211) (by decide +kernel), rfl⟩
theorem q_213 : gw (.lays RX7 RX7 "salt" "I") := ⟨List.mem_of_getElem? (i := 213) (by decide +kernel), rfl⟩
theorem q_215 : gw (.lays RX7 RX7 "mist" "I") := ⟨List.mem_of_getElem? (i := 215) (by decide +kernel), rfl⟩
theorem q_217 : gw (.lays RX7 RX7 "z" "I") := ⟨List.mem_of_getElem? (i := 217) (by decide +kernel), rfl⟩
theorem q_219 : gw (.laysFinal RX7 RX7 "letters" "[LIceType$Letter;") := ⟨List.mem_of_getElem? (i := 219) (by decide +kernel), rfl⟩
theorem q_221 : gw (.lays RX7 RX7 "letterCount" "I") := ⟨List.mem_of_getElem? (i := 221) (by decide +kernel), rfl⟩
theorem q_223 : gw (.laysFinal RX7 RX7 "pages" "[LIceType$Row;") := ⟨List.mem_of_getElem? (i := 223) (by decide +kernel), rfl⟩
theorem q_225 : gw (.laysFinal RX7 RX7 "sheets" "[I") := ⟨List.mem_of_getElem? (i := 225) (by decide +kernel), rfl⟩
theorem q_227 : gw (.laysFinal RX7 RX7 "drips" "LIceType$Law;") := ⟨List.mem_of_getElem? (i := 227) (by decide +kernel), rfl⟩
theorem q_229 : gw (.laysFinal RX7 RX7 "sees" "LIceType$Law;") := ⟨List.mem_of_getElem? (i := 229) (by decide +kernel), rfl⟩
theorem q_231 : gw (.laysFinal RX7 RX7 "words" "[LIceType$Row;") := ⟨List.mem_of_getElem? (i := 231) (by decide +kernel), rfl⟩
theorem q_233 : gw (.lays RX7 RX7 "wordCount" "I") := ⟨List.mem_of_getElem? (i := 233) (by decide +kernel), rfl⟩
theorem q_235 : gw (.laysFinal RX7 RX7 "tape" "LIceType$Row;") := ⟨List.mem_of_getElem? (i := 235) (by decide +kernel), rfl⟩
theorem q_237 : gw (.laysFinal RX7 RX7 "waiting" "LIceType$Row;") := ⟨List.mem_of_getElem? (i := 237) (by decide +kernel), rfl⟩
theorem q_248 : gw (.fieldLink RX0 17 RX0 (TX0 0).2.1 (TX0 0).2.2.1) := ⟨List.mem_of_getElem? (i := 248) (by decide +kernel), rfl⟩
theorem q_249 : gw (.fieldLink RX0 11 RX0 (TX0 1).2.1 (TX0 1).2.2.1) := ⟨List.mem_of_getElem? (i := 249) (by decide +kernel), rfl⟩
theorem q_250 : nw (.fieldLinkNest RX9 227 RX0 (TX0 1).2.1 (TX0 1).2.2.1 RX9) := ⟨List.mem_of_getElem? (i := 250) (by decide +kernel), rfl⟩
theorem q_251 : gw (.fieldLink RX0 40 RX0 (TX0 2).2.1 (TX0 2).2.2.1) := ⟨List.mem_of_getElem? (i := 251) (by decide +kernel), rfl⟩
theorem q_252 : gw (.fieldLink RX0 45 RX0 (TX0 3).2.1 (TX0 3).2.2.1) := ⟨List.mem_of_getElem? (i := 252) (by decide +kernel), rfl⟩
theorem q_253 : nw (.fieldLinkNest RX9 228 RX0 (TX0 3).2.1 (TX0 3).2.2.1 RX9) := ⟨List.mem_of_getElem? (i := 253) (by decide +kernel), rfl⟩
theorem q_254 : gw (.laysFinal RX0 RX0 "shop" "LIceType$Shop;") := ⟨List.mem_of_getElem? (i := 254) (by decide +kernel), rfl⟩
theorem q_256 : gw (.laysFinal RX0 RX0 "letters" "[LIceType$Letter;") := ⟨List.mem_of_getElem? (i := 256) (by decide +kernel), rfl⟩
theorem q_258 : gw (.lays RX0 RX0 "length" "I") := ⟨List.mem_of_getElem? (i := 258) (by decide +kernel), rfl⟩
theorem q_260 : gw (.lays RX0 RX0 "sheets" "I") := ⟨List.mem_of_getElem? (i := 260) (by decide +kernel), rfl⟩
theorem q_271 : gw (.fieldLink RX6 26 RX6 (TX6 0).2.1 (TX6 0).2.2.1) := ⟨List.mem_of_getElem? (i := 271) (by decide +kernel), rfl⟩
theorem q_272 : gw (.fieldLink RX6 30 RX6 (TX6 1).2.1 (TX6 1).2.2.1) := ⟨List.mem_of_getElem? (i := 272) (by decide +kernel), rfl⟩
theorem q_273 : gw (.fieldLink RX6 14 RX6 (TX6 2).2.1 (TX6 2).2.2.1) := ⟨List.mem_of_getElem? (i := 273) (by decide +kernel), rfl⟩
theorem q_274 : gw (.fieldLink RX6 20 RX6 (TX6 3).2.1 (TX6 3).2.2.1) := ⟨List.mem_of_getElem? (i := 274) (by decide +kernel), rfl⟩
theorem q_275 : gw (.fieldLink RX6 23 RX6 (TX6 4).2.1 (TX6 4).2.2.1) := ⟨List.mem_of_getElem? (i := 275) (by decide +kernel), rfl⟩
theorem q_276 : nw (.fieldLinkNest RX9 239 RX6 (TX6 4).2.1 (TX6 4).2.2.1 RX9) := ⟨List.mem_of_getElem? (i := 276) (by decide +kernel), rfl⟩
theorem q_277 : gw (.fieldLink RX6 59 RX6 (TX6 5).2.1 (TX6 5).2.2.1) := ⟨List.mem_of_getElem? (i := 277) (by decide +kernel), rfl⟩
theorem q_278 : nw (.fieldLinkNest RX9 236 RX6 (TX6 5).2.1 (TX6 5).2.2.1 RX9) := ⟨List.mem_of_getElem? (i := 278) (by decide +kernel), rfl⟩
theorem q_279 : gw (.laysFinal RX6 RX6 "shop" "LIceType$Shop;") := ⟨List.mem_of_getElem? (i := 279) (by decide +kernel), rfl⟩
theorem q_281 : gw (.laysFinal RX6 RX6 "ahead" "LIceType$Ahead;") := ⟨List.mem_of_getElem? (i := 281) (by decide +kernel), rfl⟩
theorem q_283 : gw (.laysFinal RX6 RX6 "filled" "LIceType$Row;") := ⟨List.mem_of_getElem? (i := 283) (by decide +kernel), rfl⟩
theorem q_285 : gw (.laysFinal RX6 RX6 "clearByTurn" "LIceType$Row;") := ⟨List.mem_of_getElem? (i := 285) (by decide +kernel), rfl⟩
theorem q_287 : gw (.laysFinal RX6 RX6 "best" "LIceType$Row;") := ⟨List.mem_of_getElem? (i := 287) (by decide +kernel), rfl⟩
theorem q_289 : gw (.lays RX6 RX6 "mostClear" "I") := ⟨List.mem_of_getElem? (i := 289) (by decide +kernel), rfl⟩
theorem q_300 : gw (.fieldLink RX2 20 RX2 (TX2 0).2.1 (TX2 0).2.2.1) := ⟨List.mem_of_getElem? (i := 300) (by decide +kernel), rfl⟩
theorem q_301 : gw (.fieldLink RX2 14 RX2 (TX2 1).2.1 (TX2 1).2.2.1) := ⟨List.mem_of_getElem? (i := 301) (by decide +kernel), rfl⟩
theorem q_302 : nw (.fieldLinkNest RX9 170 RX2 (TX2 1).2.1 (TX2 1).2.2.1 RX9) := ⟨List.mem_of_getElem? (i := 302) (by decide +kernel), rfl⟩
theorem q_303 : gw (.fieldLink RX2 26 RX2 (TX2 2).2.1 (TX2 2).2.2.1) := ⟨List.mem_of_getElem? (i := 303) (by decide +kernel), rfl⟩
theorem q_304 : gw (.laysFinal RX2 RX2 "tape" "LIceType$Row;") := ⟨List.mem_of_getElem? (i := 304) (by decide +kernel), rfl⟩
theorem q_306 : gw (.laysFinal RX2 RX2 "codes" "LIceType$Row;") := ⟨List.mem_of_getElem? (i := 306) (by decide +kernel), rfl⟩
theorem q_308 : gw (.lays RX2 RX2 "at" "I") := ⟨List.mem_of_getElem? (i := 308) (by decide +kernel), rfl⟩
theorem q_319 : gw (.fieldLink RX8 16 RX8 (TX8 0).2.1 (TX8 0).2.2.1) := ⟨List.mem_of_getElem? (i := 319) (by decide +kernel), rfl⟩
theorem q_320 : nw (.fieldLinkNest RX9 267 RX8 (TX8 0).2.1 (TX8 0).2.2.1 RX9) := ⟨List.mem_of_getElem? (i := 320) (by decide +kernel), rfl⟩
theorem q_321 : gw (.fieldLink RX8 23 RX8 (TX8 1).2.1 (TX8 1).2.2.1) := ⟨List.mem_of_getElem? (i := 321) (by decide +kernel), rfl⟩
theorem q_322 : nw (.fieldLinkNest RX9 262 RX8 (TX8 1).2.1 (TX8 1).2.2.1 RX9) := ⟨List.mem_of_getElem? (i := 322) (by decide +kernel), rfl⟩
theorem q_323 : gw (.fieldLink RX8 33 RX8 (TX8 2).2.1 (TX8 2).2.2.1) := ⟨List.mem_of_getElem? (i := 323) (by decide +kernel), rfl⟩
theorem q_324 : gw (.fieldLink RX8 37 RX8 (TX8 3).2.1 (TX8 3).2.2.1) := ⟨List.mem_of_getElem? (i := 324) (by decide +kernel), rfl⟩
theorem q_325 : gw (.fieldLink RX8 38 RX8 (TX8 4).2.1 (TX8 4).2.2.1) := ⟨List.mem_of_getElem? (i := 325) (by decide +kernel), rfl⟩
theorem q_326 : gw (.laysFinal RX8 RX8 "trace" "LIceType$Row;") := ⟨List.mem_of_getElem? (i := 326) (by decide +kernel), rfl⟩
theorem q_328 : gw (.lays RX8 RX8 "parted" "Z") := ⟨List.mem_of_getElem? (i := 328) (by decide +kernel), rfl⟩
theorem q_330 : gw (.lays RX8 RX8 "kind" "I") := ⟨List.mem_of_getElem? (i := 330) (by decide +kernel), rfl⟩
theorem q_332 : gw (.lays RX8 RX8 "m" "I") := ⟨List.mem_of_getElem? (i := 332) (by decide +kernel), rfl⟩
theorem q_334 : gw (.lays RX8 RX8 "k" "I") := ⟨List.mem_of_getElem? (i := 334) (by decide +kernel), rfl⟩
theorem q_347 : nw (.fieldLinkNest RX9 276 RX4 (TX4 0).2.1 (TX4 0).2.2.1 RX9) := ⟨List.mem_of_getElem? (i := 347) (by decide +kernel), rfl⟩
theorem q_348 : gw (.fieldLink RX4 20 RX4 (TX4 1).2.1 (TX4 1).2.2.1) := ⟨List.mem_of_getElem? (i := 348) (by decide +kernel), rfl⟩
theorem q_349 : nw (.fieldLinkNest RX9 273 RX4 (TX4 1).2.1 (TX4 1).2.2.1 RX9) := ⟨List.mem_of_getElem? (i := 349) (by decide +kernel), rfl⟩
theorem q_350 : gw (.laysFinal RX4 RX4 "numbers" "LIceType$Row;") := ⟨List.mem_of_getElem? (i := 350) (by decide +kernel), rfl⟩
theorem q_352 : gw (.lays RX4 RX4 "bits" "I") := ⟨List.mem_of_getElem? (i := 352) (by decide +kernel), rfl⟩
theorem q_355 : gw (.fieldLink RX9 12 RX9 (TX9 0).2.1 (TX9 0).2.2.1) := ⟨List.mem_of_getElem? (i := 355) (by decide +kernel), rfl⟩
theorem q_356 : gw (.fieldLink RX9 16 RX9 (TX9 1).2.1 (TX9 1).2.2.1) := ⟨List.mem_of_getElem? (i := 356) (by decide +kernel), rfl⟩
theorem q_357 : gw (.fieldLink RX9 300 RX9 (TX9 2).2.1 (TX9 2).2.2.1) := ⟨List.mem_of_getElem? (i := 357) (by decide +kernel), rfl⟩
theorem q_358 : gw (.fieldLink RX9 24 RX9 (TX9 3).2.1 (TX9 3).2.2.1) := ⟨List.mem_of_getElem? (i := 358) (by decide +kernel), rfl⟩
theorem q_359 : gw (.fieldLink RX9 33 RX9 (TX9 4).2.1 (TX9 4).2.2.1) := ⟨List.mem_of_getElem? (i := 359) (by decide +kernel), rfl⟩
theorem q_360 : gw (.fieldLink RX9 46 RX9 (TX9 5).2.1 (TX9 5).2.2.1) := ⟨List.mem_of_getElem? (i := 360) (by decide +kernel), rfl⟩
theorem q_361 : gw (.fieldLink RX9 53 RX9 (TX9 6).2.1 (TX9 6).2.2.1) := ⟨List.mem_of_getElem? (i := 361) (by decide +kernel), rfl⟩
theorem q_362 : gw (.fieldLink RX9 59 RX9 (TX9 7).2.1 (TX9 7).2.2.1) := ⟨List.mem_of_getElem? (i := 362) (by decide +kernel), rfl⟩
theorem q_363 : gw (.fieldLink RX9 63 RX9 (TX9 8).2.1 (TX9 8).2.2.1) := ⟨List.mem_of_getElem? (i := 363) (by decide +kernel), rfl⟩
theorem q_364 : gw (.laysFinal RX9 RX9 "now" "LIceType$Shop;") := ⟨List.mem_of_getElem? (i := 364) (by decide +kernel), rfl⟩
theorem q_366 : gw (.laysFinal RX9 RX9 "kept" "LIceType$Shop;") := ⟨List.mem_of_getElem? (i := 366) (by decide +kernel), rfl⟩
theorem q_368 : gw (.lays RX9 RX9 "imagesKept" "I") := ⟨List.mem_of_getElem? (i := 368) (by decide +kernel), rfl⟩
theorem q_370 : gw (.laysFinal RX9 RX9 "ahead" "LIceType$Ahead;") := ⟨List.mem_of_getElem? (i := 370) (by decide +kernel), rfl⟩
theorem q_372 : gw (.laysFinal RX9 RX9 "rows" "LIceType$Rows;") := ⟨List.mem_of_getElem? (i := 372) (by decide +kernel), rfl⟩
theorem q_374 : gw (.laysFinal RX9 RX9 "reader" "LIceType$LawReader;") := ⟨List.mem_of_getElem? (i := 374) (by decide +kernel), rfl⟩
theorem q_376 : gw (.laysFinal RX9 RX9 "voices" "LIceType$Voices;") := ⟨List.mem_of_getElem? (i := 376) (by decide +kernel), rfl⟩
theorem q_378 : gw (.laysFinal RX9 RX9 "plates" "[LIceType$Plate;") := ⟨List.mem_of_getElem? (i := 378) (by decide +kernel), rfl⟩
theorem q_380 : gw (.laysFinal RX9 RX9 "refusals" "[I") := ⟨List.mem_of_getElem? (i := 380) (by decide +kernel), rfl⟩
theorem q_387 : gw (.methodLink RX9 68 yX7_castError) := ⟨List.mem_of_getElem? (i := 387) (by decide +kernel), rfl⟩
theorem q_388 : gw (.instanceMethod yX7_castError) := ⟨List.mem_of_getElem? (i := 388) (by decide +kernel), rfl⟩
theorem q_389 : gw (.selects RX7 yX7_castError yX7_castError) := ⟨List.mem_of_getElem? (i := 389) (by decide +kernel), rfl⟩
theorem q_390 : gw (.code yX7_castError cX7_castError 4 (some .int)) := ⟨List.mem_of_getElem? (i := 390) (by decide +kernel), rfl⟩
theorem q_391 : nw (.methodLinkNest RX7 89 yX9_isWithin RX9) := ⟨List.mem_of_getElem? (i := 391) (by decide +kernel), rfl⟩
theorem q_392 : gw (.static yX9_isWithin) := ⟨List.mem_of_getElem? (i := 392) (by decide +kernel), rfl⟩
theorem q_393 : gw (.code yX9_isWithin cX9_isWithin 3 (some .boolean)) := ⟨List.mem_of_getElem? (i := 393) (by decide +kernel), rfl⟩
theorem q_394 : gw (.constant RX7 93 (-1000000001)) := ⟨List.mem_of_getElem? (i := 394) (by decide +kernel), rfl⟩
theorem q_395 : gw (.constant RX7 94 (-1000000003)) := ⟨List.mem_of_getElem? (i := 395) (by decide +kernel), rfl⟩
theorem q_396 : gw (.constant RX7 95 (-1000000004)) := ⟨List.mem_of_getElem? (i := 396) (by decide +kernel), rfl⟩
theorem q_397 : gw (.methodLink RX9 72 yX9_refuse) := ⟨List.mem_of_getElem? (i := 397) (by decide +kernel), rfl⟩
theorem q_399 : gw (.instanceMethod yX9_refuse) := ⟨List.mem_of_getElem? (i := 399) (by decide +kernel), rfl⟩
theorem q_400 : gw (.code yX9_refuse cX9_refuse 3 (some .int)) := ⟨List.mem_of_getElem? (i := 400) (by decide +kernel), rfl⟩
theorem q_401 : gw (.constant RX9 315 (-1000000000)) := ⟨List.mem_of_getElem? (i := 401) (by decide +kernel), rfl⟩
theorem q_402 : gw (.methodLink RX9 83 yX9_isWithin) := ⟨List.mem_of_getElem? (i := 402) (by decide +kernel), rfl⟩
theorem q_403 : gw (.methodLink RX9 76 yX7_castLetter) := ⟨List.mem_of_getElem? (i := 403) (by decide +kernel), rfl⟩
theorem q_404 : gw (.instanceMethod yX7_castLetter) := ⟨List.mem_of_getElem? (i := 404) (by decide +kernel), rfl⟩
theorem q_405 : gw (.selects RX7 yX7_castLetter yX7_castLetter) := ⟨List.mem_of_getElem? (i := 405) (by decide +kernel), rfl⟩
theorem q_406 : gw (.code yX7_castLetter cX7_castLetter 7 (some .int)) := ⟨List.mem_of_getElem? (i := 406) (by decide +kernel), rfl⟩
theorem q_407 : nw (.methodLinkNest RX7 96 yX9_quotient RX9) := ⟨List.mem_of_getElem? (i := 407) (by decide +kernel), rfl⟩
theorem q_408 : gw (.static yX9_quotient) := ⟨List.mem_of_getElem? (i := 408) (by decide +kernel), rfl⟩
theorem q_409 : gw (.code yX9_quotient cX9_quotient 2 (some .int)) := ⟨List.mem_of_getElem? (i := 409) (by decide +kernel), rfl⟩
theorem q_410 : gw (.methodLink RX7 100 Lib.Math.min.name) := ⟨List.mem_of_getElem? (i := 410) (by decide +kernel), rfl⟩
theorem q_411 : gw (.static Lib.Math.min.name) := ⟨List.mem_of_getElem? (i := 411) (by decide +kernel), rfl⟩
theorem q_412 : gw (.code Lib.Math.min.name Lib.Math.min.code 2 (some .int)) := ⟨List.mem_of_getElem? (i := 412) (by decide +kernel), rfl⟩
theorem q_413 : gw (.methodLink RX7 105 yX3_begin) := ⟨List.mem_of_getElem? (i := 413) (by decide +kernel), rfl⟩
theorem q_414 : gw (.instanceMethod yX3_begin) := ⟨List.mem_of_getElem? (i := 414) (by decide +kernel), rfl⟩
theorem q_415 : gw (.selects RX3 yX3_begin yX3_begin) := ⟨List.mem_of_getElem? (i := 415) (by decide +kernel), rfl⟩
theorem q_416 : gw (.code yX3_begin cX3_begin 5 none) := ⟨List.mem_of_getElem? (i := 416) (by decide +kernel), rfl⟩
theorem q_421 : gw (.methodLink RX9 79 yX7_hasLetter) := ⟨List.mem_of_getElem? (i := 421) (by decide +kernel), rfl⟩
theorem q_422 : gw (.instanceMethod yX7_hasLetter) := ⟨List.mem_of_getElem? (i := 422) (by decide +kernel), rfl⟩
theorem q_423 : gw (.selects RX7 yX7_hasLetter yX7_hasLetter) := ⟨List.mem_of_getElem? (i := 423) (by decide +kernel), rfl⟩
theorem q_424 : gw (.code yX7_hasLetter cX7_hasLetter 2 (some .boolean)) := ⟨List.mem_of_getElem? (i := 424) (by decide +kernel), rfl⟩
theorem q_425 : gw (.constant RX9 87 (-1000000001)) := ⟨List.mem_of_getElem? (i := 425) (by decide +kernel), rfl⟩
theorem q_426 : gw (.methodLink RX9 92 yX7_sheetsAround) := ⟨List.mem_of_getElem? (i := 426) (by decide +kernel), rfl⟩
theorem q_427 : gw (.instanceMethod yX7_sheetsAround) := ⟨List.mem_of_getElem? (i := 427) (by decide +kernel), rfl⟩
theorem q_428 : gw (.selects RX7 yX7_sheetsAround yX7_sheetsAround) := ⟨List.mem_of_getElem? (i := 428) (by decide +kernel), rfl⟩
theorem q_429 : gw (.code yX7_sheetsAround cX7_sheetsAround 2 (some .int)) := ⟨List.mem_of_getElem? (i := 429) (by decide +kernel), rfl⟩
theorem q_430 : nw (.methodLinkNest RX7 157 yX9_isPage RX9) := ⟨List.mem_of_getElem? (i := 430) (by decide +kernel), rfl⟩
theorem q_431 : gw (.static yX9_isPage) := ⟨List.mem_of_getElem? (i := 431) (by decide +kernel), rfl⟩
theorem q_432 : gw (.code yX9_isPage cX9_isPage 1 (some .boolean)) := ⟨List.mem_of_getElem? (i := 432) (by decide +kernel), rfl⟩
theorem q_433 : gw (.methodLink RX9 96 yX7_factOf) := ⟨List.mem_of_getElem? (i := 433) (by decide +kernel), rfl⟩
theorem q_434 : gw (.instanceMethod yX7_factOf) := ⟨List.mem_of_getElem? (i := 434) (by decide +kernel), rfl⟩
theorem q_435 : gw (.selects RX7 yX7_factOf yX7_factOf) := ⟨List.mem_of_getElem? (i := 435) (by decide +kernel), rfl⟩
theorem q_436 : gw (.code yX7_factOf cX7_factOf 4 (some .int)) := ⟨List.mem_of_getElem? (i := 436) (by decide +kernel), rfl⟩
theorem q_437 : gw (.methodLink RX7 130 yX7_meltsOf) := ⟨List.mem_of_getElem? (i := 437) (by decide +kernel), rfl⟩
theorem q_438 : gw (.instanceMethod yX7_meltsOf) := ⟨List.mem_of_getElem? (i := 438) (by decide +kernel), rfl⟩
theorem q_439 : gw (.selects RX7 yX7_meltsOf yX7_meltsOf) := ⟨List.mem_of_getElem? (i := 439) (by decide +kernel), rfl⟩
theorem q_440 : gw (.code yX7_meltsOf cX7_meltsOf 4 (some .int)) := ⟨List.mem_of_getElem? (i := 440) (by decide +kernel), rfl⟩
theorem q_441 : gw (.methodLink RX7 142 Lib.Math.max.name) := ⟨List.mem_of_getElem? (i := 441) (by decide +kernel), rfl⟩
theorem q_442 : gw (.methodLink RX7 145 yX1_isTold) := ⟨List.mem_of_getElem? (i := 442) (by decide +kernel), rfl⟩
theorem q_443 : gw (.instanceMethod yX1_isTold) := ⟨List.mem_of_getElem? (i := 443) (by decide +kernel), rfl⟩
theorem q_444 : gw (.selects RX1 yX1_isTold yX1_isTold) := ⟨List.mem_of_getElem? (i := 444) (by decide +kernel), rfl⟩
theorem q_445 : gw (.code yX1_isTold cX1_isTold 1 (some .boolean)) := ⟨List.mem_of_getElem? (i := 445) (by decide +kernel), rfl⟩
theorem q_446 : gw (.methodLink RX7 149 yX1_workOut) := ⟨List.mem_of_getElem? (i := 446) (by decide +kernel), rfl⟩
theorem q_447 : gw (.instanceMethod yX1_workOut) := ⟨List.mem_of_getElem? (i := 447) (by decide +kernel), rfl⟩
theorem q_448 : gw (.selects RX1 yX1_workOut yX1_workOut) := ⟨List.mem_of_getElem? (i := 448) (by decide +kernel), rfl⟩
theorem q_449 : gw (.code yX1_workOut cX1_workOut 8 (some .int)) := ⟨List.mem_of_getElem? (i := 449) (by decide +kernel), rfl⟩
theorem q_450 : gw (.methodLink RX1 34 yX1_join) := ⟨List.mem_of_getElem? (i := 450) (by decide +kernel), rfl⟩
theorem q_451 : gw (.static yX1_join) := ⟨List.mem_of_getElem? (i := 451) (by decide +kernel), rfl⟩
theorem q_452 : gw (.code yX1_join cX1_join 3 (some .int)) := ⟨List.mem_of_getElem? (i := 452) (by decide +kernel), rfl⟩
theorem q_453 : nw (.methodLinkNest RX7 153 yX9_hold RX9) := ⟨List.mem_of_getElem? (i := 453) (by decide +kernel), rfl⟩
theorem q_454 : gw (.static yX9_hold) := ⟨List.mem_of_getElem? (i := 454) (by decide +kernel), rfl⟩
theorem q_455 : gw (.code yX9_hold cX9_hold 3 (some .int)) := ⟨List.mem_of_getElem? (i := 455) (by decide +kernel), rfl⟩
theorem q_456 : gw (.methodLink RX7 134 yX3_reads) := ⟨List.mem_of_getElem? (i := 456) (by decide +kernel), rfl⟩
theorem q_457 : gw (.instanceMethod yX3_reads) := ⟨List.mem_of_getElem? (i := 457) (by decide +kernel), rfl⟩
theorem q_458 : gw (.selects RX3 yX3_reads yX3_reads) := ⟨List.mem_of_getElem? (i := 458) (by decide +kernel), rfl⟩
theorem q_459 : gw (.code yX3_reads cX3_reads 2 (some .int)) := ⟨List.mem_of_getElem? (i := 459) (by decide +kernel), rfl⟩
theorem q_460 : nw (.methodLinkNest RX3 47 yX9_quotient RX9) := ⟨List.mem_of_getElem? (i := 460) (by decide +kernel), rfl⟩
theorem q_461 : nw (.methodLinkNest RX3 50 yX9_hold RX9) := ⟨List.mem_of_getElem? (i := 461) (by decide +kernel), rfl⟩
theorem q_462 : gw (.methodLink RX7 138 yX7_seesOf) := ⟨List.mem_of_getElem? (i := 462) (by decide +kernel), rfl⟩
theorem q_463 : gw (.instanceMethod yX7_seesOf) := ⟨List.mem_of_getElem? (i := 463) (by decide +kernel), rfl⟩
theorem q_464 : gw (.selects RX7 yX7_seesOf yX7_seesOf) := ⟨List.mem_of_getElem? (i := 464) (by decide +kernel), rfl⟩
theorem q_465 : gw (.code yX7_seesOf cX7_seesOf 4 (some .int)) := ⟨List.mem_of_getElem? (i := 465) (by decide +kernel), rfl⟩
theorem q_470 : gw (.methodLink RX9 100 yX3_isOf) := ⟨List.mem_of_getElem? (i := 470) (by decide +kernel), rfl⟩
theorem q_471 : gw (.instanceMethod yX3_isOf) := ⟨List.mem_of_getElem? (i := 471) (by decide +kernel), rfl⟩
theorem q_472 : gw (.selects RX3 yX3_isOf yX3_isOf) := ⟨List.mem_of_getElem? (i := 472) (by decide +kernel), rfl⟩
theorem q_473 : gw (.code yX3_isOf cX3_isOf 4 (some .boolean)) := ⟨List.mem_of_getElem? (i := 473) (by decide +kernel), rfl⟩
theorem q_474 : nw (.methodLinkNest RX3 33 yX9_isWithin RX9) := ⟨List.mem_of_getElem? (i := 474) (by decide +kernel), rfl⟩
theorem q_475 : nw (.fieldLinkNest RX3 37 "IceType" "ABOVE" "[I" RX9) := ⟨List.mem_of_getElem? (i := 475) (by decide +kernel), rfl⟩
theorem q_477 : gw (.constant RX9 109 (-1000000005)) := ⟨List.mem_of_getElem? (i := 477) (by decide +kernel), rfl⟩
theorem q_482 : gw (.methodLink RX9 110 yX9_mostToSet) := ⟨List.mem_of_getElem? (i := 482) (by decide +kernel), rfl⟩
theorem q_483 : gw (.static yX9_mostToSet) := ⟨List.mem_of_getElem? (i := 483) (by decide +kernel), rfl⟩
theorem q_484 : gw (.code yX9_mostToSet cX9_mostToSet 1 (some .int)) := ⟨List.mem_of_getElem? (i := 484) (by decide +kernel), rfl⟩
theorem q_485 : gw (.methodLink RX9 113 yX3_change) := ⟨List.mem_of_getElem? (i := 485) (by decide +kernel), rfl⟩
theorem q_486 : gw (.instanceMethod yX3_change) := ⟨List.mem_of_getElem? (i := 486) (by decide +kernel), rfl⟩
theorem q_487 : gw (.selects RX3 yX3_change yX3_change) := ⟨List.mem_of_getElem? (i := 487) (by decide +kernel), rfl⟩
theorem q_488 : gw (.code yX3_change cX3_change 4 (some .int)) := ⟨List.mem_of_getElem? (i := 488) (by decide +kernel), rfl⟩
theorem q_493 : gw (.constant RX9 120 (-1000000003)) := ⟨List.mem_of_getElem? (i := 493) (by decide +kernel), rfl⟩
theorem q_494 : gw (.methodLink RX9 121 yX3_takeIce) := ⟨List.mem_of_getElem? (i := 494) (by decide +kernel), rfl⟩
theorem q_495 : gw (.instanceMethod yX3_takeIce) := ⟨List.mem_of_getElem? (i := 495) (by decide +kernel), rfl⟩
theorem q_496 : gw (.selects RX3 yX3_takeIce yX3_takeIce) := ⟨List.mem_of_getElem? (i := 496) (by decide +kernel), rfl⟩
theorem q_497 : gw (.code yX3_takeIce cX3_takeIce 2 (some .int)) := ⟨List.mem_of_getElem? (i := 497) (by decide +kernel), rfl⟩
theorem q_498 : gw (.methodLink RX9 124 yX7_dripInto) := ⟨List.mem_of_getElem? (i := 498) (by decide +kernel), rfl⟩
theorem q_499 : gw (.instanceMethod yX7_dripInto) := ⟨List.mem_of_getElem? (i := 499) (by decide +kernel), rfl⟩
theorem q_500 : gw (.selects RX7 yX7_dripInto yX7_dripInto) := ⟨List.mem_of_getElem? (i := 500) (by decide +kernel), rfl⟩
theorem q_501 : gw (.code yX7_dripInto cX7_dripInto 3 none) := ⟨List.mem_of_getElem? (i := 501) (by decide +kernel), rfl⟩
theorem q_502 : gw (.constant RX7 161 (99999)) := ⟨List.mem_of_getElem? (i := 502) (by decide +kernel), rfl⟩
theorem q_511 : gw (.constant RX9 134 (99999)) := ⟨List.mem_of_getElem? (i := 511) (by decide +kernel), rfl⟩
theorem q_516 : gw (.constant RX9 146 (-1000000004)) := ⟨List.mem_of_getElem? (i := 516) (by decide +kernel), rfl⟩
theorem q_517 : gw (.methodLink RX9 147 yX5_add) := ⟨List.mem_of_getElem? (i := 517) (by decide +kernel), rfl⟩
theorem q_518 : gw (.instanceMethod yX5_add) := ⟨List.mem_of_getElem? (i := 518) (by decide +kernel), rfl⟩
theorem q_519 : gw (.selects RX5 yX5_add yX5_add) := ⟨List.mem_of_getElem? (i := 519) (by decide +kernel), rfl⟩
theorem q_520 : gw (.code yX5_add cX5_add 2 (some .boolean)) := ⟨List.mem_of_getElem? (i := 520) (by decide +kernel), rfl⟩
theorem q_527 : gw (.methodLink RX9 154 yX2_faultOfTape) := ⟨List.mem_of_getElem? (i := 527) (by decide +kernel), rfl⟩
theorem q_528 : gw (.instanceMethod yX2_faultOfTape) := ⟨List.mem_of_getElem? (i := 528) (by decide +kernel), rfl⟩
theorem q_529 : gw (.selects RX2 yX2_faultOfTape yX2_faultOfTape) := ⟨List.mem_of_getElem? (i := 529) (by decide +kernel), rfl⟩
theorem q_530 : gw (.code yX2_faultOfTape cX2_faultOfTape 3 (some .int)) := ⟨List.mem_of_getElem? (i := 530) (by decide +kernel), rfl⟩
theorem q_531 : gw (.methodLink RX2 23 yX5_clear) := ⟨List.mem_of_getElem? (i := 531) (by decide +kernel), rfl⟩
theorem q_532 : gw (.instanceMethod yX5_clear) := ⟨List.mem_of_getElem? (i := 532) (by decide +kernel), rfl⟩
theorem q_533 : gw (.selects RX5 yX5_clear yX5_clear) := ⟨List.mem_of_getElem? (i := 533) (by decide +kernel), rfl⟩
theorem q_534 : gw (.code yX5_clear cX5_clear 1 none) := ⟨List.mem_of_getElem? (i := 534) (by decide +kernel), rfl⟩
theorem q_535 : gw (.methodLink RX2 30 yX2_readLevel) := ⟨List.mem_of_getElem? (i := 535) (by decide +kernel), rfl⟩
theorem q_537 : gw (.instanceMethod yX2_readLevel) := ⟨List.mem_of_getElem? (i := 537) (by decide +kernel), rfl⟩
theorem q_538 : gw (.code yX2_readLevel cX2_readLevel 7 (some .boolean)) := ⟨List.mem_of_getElem? (i := 538) (by decide +kernel), rfl⟩
theorem q_539 : gw (.methodLink RX2 37 yX2_readPart) := ⟨List.mem_of_getElem? (i := 539) (by decide +kernel), rfl⟩
theorem q_541 : gw (.instanceMethod yX2_readPart) := ⟨List.mem_of_getElem? (i := 541) (by decide +kernel), rfl⟩
theorem q_542 : gw (.code yX2_readPart cX2_readPart 5 (some .boolean)) := ⟨List.mem_of_getElem? (i := 542) (by decide +kernel), rfl⟩
theorem q_543 : gw (.methodLink RX2 45 yX5_at) := ⟨List.mem_of_getElem? (i := 543) (by decide +kernel), rfl⟩
theorem q_544 : gw (.instanceMethod yX5_at) := ⟨List.mem_of_getElem? (i := 544) (by decide +kernel), rfl⟩
theorem q_545 : gw (.selects RX5 yX5_at yX5_at) := ⟨List.mem_of_getElem? (i := 545) (by decide +kernel), rfl⟩
theorem q_546 : gw (.code yX5_at cX5_at 2 (some .int)) := ⟨List.mem_of_getElem? (i := 546) (by decide +kernel), rfl⟩
theorem q_547 : nw (.methodLinkNest RX5 23 yX9_isWithin RX9) := ⟨List.mem_of_getElem? (i := 547) (by decide +kernel), rfl⟩
theorem q_548 : gw (.methodLink RX2 56 yX2_isDigit) := ⟨List.mem_of_getElem? (i := 548) (by decide +kernel), rfl⟩
theorem q_549 : gw (.static yX2_isDigit) := ⟨List.mem_of_getElem? (i := 549) (by decide +kernel), rfl⟩
theorem q_550 : gw (.code yX2_isDigit cX2_isDigit 1 (some .boolean)) := ⟨List.mem_of_getElem? (i := 550) (by decide +kernel), rfl⟩
theorem q_551 : nw (.methodLinkNest RX2 52 yX9_isWithin RX9) := ⟨List.mem_of_getElem? (i := 551) (by decide +kernel), rfl⟩
theorem q_552 : gw (.methodLink RX2 59 yX2_readNumber) := ⟨List.mem_of_getElem? (i := 552) (by decide +kernel), rfl⟩
theorem q_554 : gw (.instanceMethod yX2_readNumber) := ⟨List.mem_of_getElem? (i := 554) (by decide +kernel), rfl⟩
theorem q_555 : gw (.code yX2_readNumber cX2_readNumber 3 none) := ⟨List.mem_of_getElem? (i := 555) (by decide +kernel), rfl⟩
theorem q_556 : gw (.methodLink RX2 48 yX5_add) := ⟨List.mem_of_getElem? (i := 556) (by decide +kernel), rfl⟩
theorem q_557 : gw (.methodLink RX2 62 yX2_readOpened) := ⟨List.mem_of_getElem? (i := 557) (by decide +kernel), rfl⟩
theorem q_559 : gw (.instanceMethod yX2_readOpened) := ⟨List.mem_of_getElem? (i := 559) (by decide +kernel), rfl⟩
theorem q_560 : gw (.code yX2_readOpened cX2_readOpened 5 (some .boolean)) := ⟨List.mem_of_getElem? (i := 560) (by decide +kernel), rfl⟩
theorem q_561 : gw (.methodLink RX2 65 yJ0_indexOf_0f7a4) := ⟨List.mem_of_getElem? (i := 561) (by decide +kernel), rfl⟩
theorem q_562 : gw (.instanceMethod yJ0_indexOf_0f7a4) := ⟨List.mem_of_getElem? (i := 562) (by decide +kernel), rfl⟩
theorem q_563 : gw (.selects RJ0 yJ0_indexOf_0f7a4 yJ0_indexOf_0f7a4) := ⟨List.mem_of_getElem? (i := 563) (by decide +kernel), rfl⟩
theorem q_564 : gw (.code yJ0_indexOf_0f7a4 cJ0_indexOf_0f7a4 2 (some .int)) := ⟨List.mem_of_getElem? (i := 564) (by decide +kernel), rfl⟩
theorem q_565 : gw (.methodLink RJ0 633 yJ0_indexOf_7cf53) := ⟨List.mem_of_getElem? (i := 565) (by decide +kernel), rfl⟩
theorem q_566 : gw (.instanceMethod yJ0_indexOf_7cf53) := ⟨List.mem_of_getElem? (i := 566) (by decide +kernel), rfl⟩
theorem q_567 : gw (.selects RJ0 yJ0_indexOf_7cf53 yJ0_indexOf_7cf53) := ⟨List.mem_of_getElem? (i := 567) (by decide +kernel), rfl⟩
theorem q_568 : gw (.code yJ0_indexOf_7cf53 cJ0_indexOf_7cf53 3 (some .int)) := ⟨List.mem_of_getElem? (i := 568) (by decide +kernel), rfl⟩
theorem q_569 : gw (.methodLink RJ0 492 yJ0_isLatin1_aae02) := ⟨List.mem_of_getElem? (i := 569) (by decide +kernel), rfl⟩
theorem q_570 : gw (.instanceMethod yJ0_isLatin1_aae02) := ⟨List.mem_of_getElem? (i := 570) (by decide +kernel), rfl⟩
theorem q_571 : gw (.selects RJ0 yJ0_isLatin1_aae02 yJ0_isLatin1_aae02) := ⟨List.mem_of_getElem? (i := 571) (by decide +kernel), rfl⟩
theorem q_572 : gw (.code yJ0_isLatin1_aae02 cJ0_isLatin1_aae02 1 (some .boolean)) := ⟨List.mem_of_getElem? (i := 572) (by decide +kernel), rfl⟩
theorem q_573 : gw (.fieldLink RJ0 38 "java/lang/String" "COMPACT_STRINGS" "Z") := ⟨List.mem_of_getElem? (i := 573) (by decide +kernel), rfl⟩
theorem q_575 : gw (.methodLink RJ0 505 yJ0_length_8abf5) := ⟨List.mem_of_getElem? (i := 575) (by decide +kernel), rfl⟩
theorem q_576 : gw (.instanceMethod yJ0_length_8abf5) := ⟨List.mem_of_getElem? (i := 576) (by decide +kernel), rfl⟩
theorem q_577 : gw (.selects RJ0 yJ0_length_8abf5 yJ0_length_8abf5) := ⟨List.mem_of_getElem? (i := 577) (by decide +kernel), rfl⟩
theorem q_578 : gw (.code yJ0_length_8abf5 cJ0_length_8abf5 1 (some .int)) := ⟨List.mem_of_getElem? (i := 578) (by decide +kernel), rfl⟩
theorem q_579 : gw (.methodLink RJ0 335 yJ0_coder_7d493) := ⟨List.mem_of_getElem? (i := 579) (by decide +kernel), rfl⟩
theorem q_580 : gw (.instanceMethod yJ0_coder_7d493) := ⟨List.mem_of_getElem? (i := 580) (by decide +kernel), rfl⟩
theorem q_581 : gw (.selects RJ0 yJ0_coder_7d493 yJ0_coder_7d493) := ⟨List.mem_of_getElem? (i := 581) (by decide +kernel), rfl⟩
theorem q_582 : gw (.code yJ0_coder_7d493 cJ0_coder_7d493 1 (some .byte)) := ⟨List.mem_of_getElem? (i := 582) (by decide +kernel), rfl⟩
theorem q_583 : gw (.methodLink RJ0 637 yJ1_indexOf_4cfef) := ⟨List.mem_of_getElem? (i := 583) (by decide +kernel), rfl⟩
theorem q_584 : gw (.static yJ1_indexOf_4cfef) := ⟨List.mem_of_getElem? (i := 584) (by decide +kernel), rfl⟩
theorem q_585 : gw (.code yJ1_indexOf_4cfef cJ1_indexOf_4cfef 4 (some .int)) := ⟨List.mem_of_getElem? (i := 585) (by decide +kernel), rfl⟩
theorem q_586 : gw (.methodLink RJ1 88 yJ1_canEncode_9a6ad) := ⟨List.mem_of_getElem? (i := 586) (by decide +kernel), rfl⟩
theorem q_587 : gw (.static yJ1_canEncode_9a6ad) := ⟨List.mem_of_getElem? (i := 587) (by decide +kernel), rfl⟩
theorem q_588 : gw (.code yJ1_canEncode_9a6ad cJ1_canEncode_9a6ad 1 (some .boolean)) := ⟨List.mem_of_getElem? (i := 588) (by decide +kernel), rfl⟩
theorem q_589 : gw (.methodLink RJ1 92 Lib.Math.max.name) := ⟨List.mem_of_getElem? (i := 589) (by decide +kernel), rfl⟩
theorem q_590 : gw (.methodLink RJ1 38 Lib.Math.min.name) := ⟨List.mem_of_getElem? (i := 590) (by decide +kernel), rfl⟩
theorem q_591 : gw (.methodLink RJ1 95 yJ1_indexOfChar_4cfef) := ⟨List.mem_of_getElem? (i := 591) (by decide +kernel), rfl⟩
theorem q_592 : gw (.static yJ1_indexOfChar_4cfef) := ⟨List.mem_of_getElem? (i := 592) (by decide +kernel), rfl⟩
theorem q_593 : gw (.code yJ1_indexOfChar_4cfef cJ1_indexOfChar_4cfef 6 (some .int)) := ⟨List.mem_of_getElem? (i := 593) (by decide +kernel), rfl⟩
theorem q_643 : gw (.methodLink RX2 41 yX2_isJoining) := ⟨List.mem_of_getElem? (i := 643) (by decide +kernel), rfl⟩
theorem q_645 : gw (.instanceMethod yX2_isJoining) := ⟨List.mem_of_getElem? (i := 645) (by decide +kernel), rfl⟩
theorem q_646 : gw (.code yX2_isJoining cX2_isJoining 4 (some .boolean)) := ⟨List.mem_of_getElem? (i := 646) (by decide +kernel), rfl⟩
theorem q_647 : gw (.methodLink RX9 158 yX5_clear) := ⟨List.mem_of_getElem? (i := 647) (by decide +kernel), rfl⟩
theorem q_648 : gw (.methodLink RX9 161 yX7_lawOf) := ⟨List.mem_of_getElem? (i := 648) (by decide +kernel), rfl⟩
theorem q_649 : gw (.instanceMethod yX7_lawOf) := ⟨List.mem_of_getElem? (i := 649) (by decide +kernel), rfl⟩
theorem q_650 : gw (.selects RX7 yX7_lawOf yX7_lawOf) := ⟨List.mem_of_getElem? (i := 650) (by decide +kernel), rfl⟩
theorem q_651 : gw (.code yX7_lawOf cX7_lawOf 2 (some (.object RX1))) := ⟨List.mem_of_getElem? (i := 651) (by decide +kernel), rfl⟩
theorem q_652 : gw (.methodLink RX9 171 yX5_takeFrom) := ⟨List.mem_of_getElem? (i := 652) (by decide +kernel), rfl⟩
theorem q_653 : gw (.instanceMethod yX5_takeFrom) := ⟨List.mem_of_getElem? (i := 653) (by decide +kernel), rfl⟩
theorem q_654 : gw (.selects RX5 yX5_takeFrom yX5_takeFrom) := ⟨List.mem_of_getElem? (i := 654) (by decide +kernel), rfl⟩
theorem q_655 : gw (.code yX5_takeFrom cX5_takeFrom 2 none) := ⟨List.mem_of_getElem? (i := 655) (by decide +kernel), rfl⟩
theorem q_656 : gw (.methodLink RX5 33 Lib.Math.min.name) := ⟨List.mem_of_getElem? (i := 656) (by decide +kernel), rfl⟩
theorem q_657 : gw (.methodLink RX5 36 arraycopyName) := ⟨List.mem_of_getElem? (i := 657) (by decide +kernel), rfl⟩
theorem q_658 : gw (.static arraycopyName) := ⟨List.mem_of_getElem? (i := 658) (by decide +kernel), rfl⟩
theorem q_659 : gw (.native arraycopyName) := ⟨List.mem_of_getElem? (i := 659) (by decide +kernel), rfl⟩
theorem q_665 : gw (.methodLink RX9 174 yX1_isTold) := ⟨List.mem_of_getElem? (i := 665) (by decide +kernel), rfl⟩
theorem q_670 : gw (.methodLink RX9 181 yX7_wordFault) := ⟨List.mem_of_getElem? (i := 670) (by decide +kernel), rfl⟩
theorem q_671 : gw (.instanceMethod yX7_wordFault) := ⟨List.mem_of_getElem? (i := 671) (by decide +kernel), rfl⟩
theorem q_672 : gw (.selects RX7 yX7_wordFault yX7_wordFault) := ⟨List.mem_of_getElem? (i := 672) (by decide +kernel), rfl⟩
theorem q_673 : gw (.code yX7_wordFault cX7_wordFault 2 (some .int)) := ⟨List.mem_of_getElem? (i := 673) (by decide +kernel), rfl⟩
theorem q_674 : gw (.methodLink RX7 162 yX5_at) := ⟨List.mem_of_getElem? (i := 674) (by decide +kernel), rfl⟩
theorem q_675 : nw (.methodLinkNest RX7 188 yX9_isSmallLetter RX9) := ⟨List.mem_of_getElem? (i := 675) (by decide +kernel), rfl⟩
theorem q_676 : gw (.static yX9_isSmallLetter) := ⟨List.mem_of_getElem? (i := 676) (by decide +kernel), rfl⟩
theorem q_677 : gw (.code yX9_isSmallLetter cX9_isSmallLetter 1 (some .boolean)) := ⟨List.mem_of_getElem? (i := 677) (by decide +kernel), rfl⟩
theorem q_682 : gw (.methodLink RX9 189 yX7_placeNotSet) := ⟨List.mem_of_getElem? (i := 682) (by decide +kernel), rfl⟩
theorem q_683 : gw (.instanceMethod yX7_placeNotSet) := ⟨List.mem_of_getElem? (i := 683) (by decide +kernel), rfl⟩
theorem q_684 : gw (.selects RX7 yX7_placeNotSet yX7_placeNotSet) := ⟨List.mem_of_getElem? (i := 684) (by decide +kernel), rfl⟩
theorem q_685 : gw (.code yX7_placeNotSet cX7_placeNotSet 2 (some .int)) := ⟨List.mem_of_getElem? (i := 685) (by decide +kernel), rfl⟩
theorem q_686 : gw (.methodLink RX7 194 yX7_timesUpTo) := ⟨List.mem_of_getElem? (i := 686) (by decide +kernel), rfl⟩
theorem q_688 : gw (.instanceMethod yX7_timesUpTo) := ⟨List.mem_of_getElem? (i := 688) (by decide +kernel), rfl⟩
theorem q_689 : gw (.code yX7_timesUpTo cX7_timesUpTo 4 (some .int)) := ⟨List.mem_of_getElem? (i := 689) (by decide +kernel), rfl⟩
theorem q_690 : nw (.methodLinkNest RX7 191 yX9_glyphOf RX9) := ⟨List.mem_of_getElem? (i := 690) (by decide +kernel), rfl⟩
theorem q_691 : gw (.static yX9_glyphOf) := ⟨List.mem_of_getElem? (i := 691) (by decide +kernel), rfl⟩
theorem q_692 : gw (.code yX9_glyphOf cX9_glyphOf 1 (some .int)) := ⟨List.mem_of_getElem? (i := 692) (by decide +kernel), rfl⟩
theorem q_693 : gw (.methodLink RX7 197 yX7_caseOf) := ⟨List.mem_of_getElem? (i := 693) (by decide +kernel), rfl⟩
theorem q_694 : gw (.instanceMethod yX7_caseOf) := ⟨List.mem_of_getElem? (i := 694) (by decide +kernel), rfl⟩
theorem q_695 : gw (.selects RX7 yX7_caseOf yX7_caseOf) := ⟨List.mem_of_getElem? (i := 695) (by decide +kernel), rfl⟩
theorem q_696 : gw (.code yX7_caseOf cX7_caseOf 5 (some .int)) := ⟨List.mem_of_getElem? (i := 696) (by decide +kernel), rfl⟩
theorem q_701 : gw (.methodLink RX9 192 yX9_isPage) := ⟨List.mem_of_getElem? (i := 701) (by decide +kernel), rfl⟩
theorem q_706 : gw (.methodLink RX9 198 yX7_emptyPage) := ⟨List.mem_of_getElem? (i := 706) (by decide +kernel), rfl⟩
theorem q_707 : gw (.instanceMethod yX7_emptyPage) := ⟨List.mem_of_getElem? (i := 707) (by decide +kernel), rfl⟩
theorem q_708 : gw (.selects RX7 yX7_emptyPage yX7_emptyPage) := ⟨List.mem_of_getElem? (i := 708) (by decide +kernel), rfl⟩
theorem q_709 : gw (.code yX7_emptyPage cX7_emptyPage 4 (some .int)) := ⟨List.mem_of_getElem? (i := 709) (by decide +kernel), rfl⟩
theorem q_710 : gw (.methodLink RX7 169 yX7_letterIn) := ⟨List.mem_of_getElem? (i := 710) (by decide +kernel), rfl⟩
theorem q_711 : gw (.instanceMethod yX7_letterIn) := ⟨List.mem_of_getElem? (i := 711) (by decide +kernel), rfl⟩
theorem q_712 : gw (.selects RX7 yX7_letterIn yX7_letterIn) := ⟨List.mem_of_getElem? (i := 712) (by decide +kernel), rfl⟩
theorem q_713 : gw (.code yX7_letterIn cX7_letterIn 3 (some (.object RX3))) := ⟨List.mem_of_getElem? (i := 713) (by decide +kernel), rfl⟩
theorem q_714 : gw (.methodLink RX7 185 yX5_clear) := ⟨List.mem_of_getElem? (i := 714) (by decide +kernel), rfl⟩
theorem q_719 : gw (.methodLink RX9 204 yX7_seenOf) := ⟨List.mem_of_getElem? (i := 719) (by decide +kernel), rfl⟩
theorem q_720 : gw (.instanceMethod yX7_seenOf) := ⟨List.mem_of_getElem? (i := 720) (by decide +kernel), rfl⟩
theorem q_721 : gw (.selects RX7 yX7_seenOf yX7_seenOf) := ⟨List.mem_of_getElem? (i := 721) (by decide +kernel), rfl⟩
theorem q_722 : gw (.code yX7_seenOf cX7_seenOf 4 (some .int)) := ⟨List.mem_of_getElem? (i := 722) (by decide +kernel), rfl⟩
theorem q_723 : gw (.methodLink RX9 207 yX5_at) := ⟨List.mem_of_getElem? (i := 723) (by decide +kernel), rfl⟩
theorem q_728 : gw (.methodLink RX9 210 yX7_pressSheet) := ⟨List.mem_of_getElem? (i := 728) (by decide +kernel), rfl⟩
theorem q_729 : gw (.instanceMethod yX7_pressSheet) := ⟨List.mem_of_getElem? (i := 729) (by decide +kernel), rfl⟩
theorem q_730 : gw (.selects RX7 yX7_pressSheet yX7_pressSheet) := ⟨List.mem_of_getElem? (i := 730) (by decide +kernel), rfl⟩
theorem q_731 : gw (.code yX7_pressSheet cX7_pressSheet 5 (some .boolean)) := ⟨List.mem_of_getElem? (i := 731) (by decide +kernel), rfl⟩
theorem q_732 : gw (.methodLink RX7 173 yX7_seenOf) := ⟨List.mem_of_getElem? (i := 732) (by decide +kernel), rfl⟩
theorem q_733 : gw (.methodLink RX7 176 yX3_takeIce) := ⟨List.mem_of_getElem? (i := 733) (by decide +kernel), rfl⟩
theorem q_734 : gw (.methodLink RX7 179 yX7_dripInto) := ⟨List.mem_of_getElem? (i := 734) (by decide +kernel), rfl⟩
theorem q_735 : gw (.methodLink RX7 182 yX3_grow) := ⟨List.mem_of_getElem? (i := 735) (by decide +kernel), rfl⟩
theorem q_736 : gw (.instanceMethod yX3_grow) := ⟨List.mem_of_getElem? (i := 736) (by decide +kernel), rfl⟩
theorem q_737 : gw (.selects RX3 yX3_grow yX3_grow) := ⟨List.mem_of_getElem? (i := 737) (by decide +kernel), rfl⟩
theorem q_738 : gw (.code yX3_grow cX3_grow 1 none) := ⟨List.mem_of_getElem? (i := 738) (by decide +kernel), rfl⟩
theorem q_739 : gw (.methodLink RX3 41 Lib.Math.min.name) := ⟨List.mem_of_getElem? (i := 739) (by decide +kernel), rfl⟩
theorem q_744 : gw (.methodLink RX9 213 yX0_startPage) := ⟨List.mem_of_getElem? (i := 744) (by decide +kernel), rfl⟩
theorem q_745 : gw (.instanceMethod yX0_startPage) := ⟨List.mem_of_getElem? (i := 745) (by decide +kernel), rfl⟩
theorem q_746 : gw (.selects RX0 yX0_startPage yX0_startPage) := ⟨List.mem_of_getElem? (i := 746) (by decide +kernel), rfl⟩
theorem q_747 : gw (.code yX0_startPage cX0_startPage 3 none) := ⟨List.mem_of_getElem? (i := 747) (by decide +kernel), rfl⟩
theorem q_748 : gw (.methodLink RX0 34 Lib.Math.min.name) := ⟨List.mem_of_getElem? (i := 748) (by decide +kernel), rfl⟩
theorem q_749 : gw (.methodLink RX0 47 yX7_letterIn) := ⟨List.mem_of_getElem? (i := 749) (by decide +kernel), rfl⟩
theorem q_750 : gw (.methodLink RX0 51 yX3_takeFrom) := ⟨List.mem_of_getElem? (i := 750) (by decide +kernel), rfl⟩
theorem q_751 : gw (.instanceMethod yX3_takeFrom) := ⟨List.mem_of_getElem? (i := 751) (by decide +kernel), rfl⟩
theorem q_752 : gw (.selects RX3 yX3_takeFrom yX3_takeFrom) := ⟨List.mem_of_getElem? (i := 752) (by decide +kernel), rfl⟩
theorem q_753 : gw (.code yX3_takeFrom cX3_takeFrom 2 none) := ⟨List.mem_of_getElem? (i := 753) (by decide +kernel), rfl⟩
theorem q_754 : gw (.methodLink RX9 216 yX0_clearInARun) := ⟨List.mem_of_getElem? (i := 754) (by decide +kernel), rfl⟩
theorem q_755 : gw (.instanceMethod yX0_clearInARun) := ⟨List.mem_of_getElem? (i := 755) (by decide +kernel), rfl⟩
theorem q_756 : gw (.selects RX0 yX0_clearInARun yX0_clearInARun) := ⟨List.mem_of_getElem? (i := 756) (by decide +kernel), rfl⟩
theorem q_757 : gw (.code yX0_clearInARun cX0_clearInARun 3 (some .int)) := ⟨List.mem_of_getElem? (i := 757) (by decide +kernel), rfl⟩
theorem q_758 : gw (.methodLink RX0 76 yX0_seen) := ⟨List.mem_of_getElem? (i := 758) (by decide +kernel), rfl⟩
theorem q_759 : gw (.instanceMethod yX0_seen) := ⟨List.mem_of_getElem? (i := 759) (by decide +kernel), rfl⟩
theorem q_760 : gw (.selects RX0 yX0_seen yX0_seen) := ⟨List.mem_of_getElem? (i := 760) (by decide +kernel), rfl⟩
theorem q_761 : gw (.code yX0_seen cX0_seen 3 (some .int)) := ⟨List.mem_of_getElem? (i := 761) (by decide +kernel), rfl⟩
theorem q_762 : gw (.methodLink RX0 62 yX7_seesOf) := ⟨List.mem_of_getElem? (i := 762) (by decide +kernel), rfl⟩
theorem q_763 : gw (.methodLink RX0 80 yX0_passSheet) := ⟨List.mem_of_getElem? (i := 763) (by decide +kernel), rfl⟩
theorem q_764 : gw (.instanceMethod yX0_passSheet) := ⟨List.mem_of_getElem? (i := 764) (by decide +kernel), rfl⟩
theorem q_765 : gw (.selects RX0 yX0_passSheet yX0_passSheet) := ⟨List.mem_of_getElem? (i := 765) (by decide +kernel), rfl⟩
theorem q_766 : gw (.code yX0_passSheet cX0_passSheet 2 none) := ⟨List.mem_of_getElem? (i := 766) (by decide +kernel), rfl⟩
theorem q_767 : gw (.methodLink RX0 66 yX7_meltsOf) := ⟨List.mem_of_getElem? (i := 767) (by decide +kernel), rfl⟩
theorem q_768 : gw (.methodLink RX0 69 yX3_takeIce) := ⟨List.mem_of_getElem? (i := 768) (by decide +kernel), rfl⟩
theorem q_769 : gw (.methodLink RX0 73 yX3_grow) := ⟨List.mem_of_getElem? (i := 769) (by decide +kernel), rfl⟩
theorem q_774 : gw (.methodLink RX9 219 yX0_startLetter) := ⟨List.mem_of_getElem? (i := 774) (by decide +kernel), rfl⟩
theorem q_775 : gw (.instanceMethod yX0_startLetter) := ⟨List.mem_of_getElem? (i := 775) (by decide +kernel), rfl⟩
theorem q_776 : gw (.selects RX0 yX0_startLetter yX0_startLetter) := ⟨List.mem_of_getElem? (i := 776) (by decide +kernel), rfl⟩
theorem q_777 : gw (.code yX0_startLetter cX0_startLetter 2 none) := ⟨List.mem_of_getElem? (i := 777) (by decide +kernel), rfl⟩
theorem q_778 : gw (.methodLink RX0 55 yX7_sheetsAround) := ⟨List.mem_of_getElem? (i := 778) (by decide +kernel), rfl⟩
theorem q_779 : gw (.constant RX9 223 (-1000000002)) := ⟨List.mem_of_getElem? (i := 779) (by decide +kernel), rfl⟩
theorem q_784 : gw (.methodLink RX9 224 yX0_passSheet) := ⟨List.mem_of_getElem? (i := 784) (by decide +kernel), rfl⟩
theorem q_789 : gw (.methodLink RX9 230 yX6_tryTurns) := ⟨List.mem_of_getElem? (i := 789) (by decide +kernel), rfl⟩
theorem q_790 : gw (.instanceMethod yX6_tryTurns) := ⟨List.mem_of_getElem? (i := 790) (by decide +kernel), rfl⟩
theorem q_791 : gw (.selects RX6 yX6_tryTurns yX6_tryTurns) := ⟨List.mem_of_getElem? (i := 791) (by decide +kernel), rfl⟩
theorem q_792 : gw (.code yX6_tryTurns cX6_tryTurns 4 none) := ⟨List.mem_of_getElem? (i := 792) (by decide +kernel), rfl⟩
theorem q_793 : gw (.methodLink RX6 34 yX5_clear) := ⟨List.mem_of_getElem? (i := 793) (by decide +kernel), rfl⟩
theorem q_794 : gw (.methodLink RX6 47 yX5_add) := ⟨List.mem_of_getElem? (i := 794) (by decide +kernel), rfl⟩
theorem q_795 : gw (.methodLink RX6 51 yX5_at) := ⟨List.mem_of_getElem? (i := 795) (by decide +kernel), rfl⟩
theorem q_796 : gw (.methodLink RX6 55 yX6_clearInTurn) := ⟨List.mem_of_getElem? (i := 796) (by decide +kernel), rfl⟩
theorem q_798 : gw (.instanceMethod yX6_clearInTurn) := ⟨List.mem_of_getElem? (i := 798) (by decide +kernel), rfl⟩
theorem q_799 : gw (.code yX6_clearInTurn cX6_clearInTurn 6 (some .int)) := ⟨List.mem_of_getElem? (i := 799) (by decide +kernel), rfl⟩
theorem q_800 : gw (.methodLink RX6 69 yX0_startPage) := ⟨List.mem_of_getElem? (i := 800) (by decide +kernel), rfl⟩
theorem q_801 : gw (.methodLink RX6 74 yX0_waitSheet) := ⟨List.mem_of_getElem? (i := 801) (by decide +kernel), rfl⟩
theorem q_802 : gw (.instanceMethod yX0_waitSheet) := ⟨List.mem_of_getElem? (i := 802) (by decide +kernel), rfl⟩
theorem q_803 : gw (.selects RX0 yX0_waitSheet yX0_waitSheet) := ⟨List.mem_of_getElem? (i := 803) (by decide +kernel), rfl⟩
theorem q_804 : gw (.code yX0_waitSheet cX0_waitSheet 2 none) := ⟨List.mem_of_getElem? (i := 804) (by decide +kernel), rfl⟩
theorem q_805 : gw (.methodLink RX6 77 yX0_seen) := ⟨List.mem_of_getElem? (i := 805) (by decide +kernel), rfl⟩
theorem q_806 : gw (.methodLink RX6 81 yX0_passSheet) := ⟨List.mem_of_getElem? (i := 806) (by decide +kernel), rfl⟩
theorem q_807 : gw (.methodLink RX9 233 yX6_findBest) := ⟨List.mem_of_getElem? (i := 807) (by decide +kernel), rfl⟩
theorem q_808 : gw (.instanceMethod yX6_findBest) := ⟨List.mem_of_getElem? (i := 808) (by decide +kernel), rfl⟩
theorem q_809 : gw (.selects RX6 yX6_findBest yX6_findBest) := ⟨List.mem_of_getElem? (i := 809) (by decide +kernel), rfl⟩
theorem q_810 : gw (.code yX6_findBest cX6_findBest 5 none) := ⟨List.mem_of_getElem? (i := 810) (by decide +kernel), rfl⟩
theorem q_811 : gw (.methodLink RX6 62 yX6_clearOfRow) := ⟨List.mem_of_getElem? (i := 811) (by decide +kernel), rfl⟩
theorem q_813 : gw (.instanceMethod yX6_clearOfRow) := ⟨List.mem_of_getElem? (i := 813) (by decide +kernel), rfl⟩
theorem q_814 : gw (.code yX6_clearOfRow cX6_clearOfRow 7 (some .int)) := ⟨List.mem_of_getElem? (i := 814) (by decide +kernel), rfl⟩
theorem q_815 : gw (.methodLink RX6 66 yX6_chosen) := ⟨List.mem_of_getElem? (i := 815) (by decide +kernel), rfl⟩
theorem q_816 : gw (.static yX6_chosen) := ⟨List.mem_of_getElem? (i := 816) (by decide +kernel), rfl⟩
theorem q_817 : gw (.code yX6_chosen cX6_chosen 3 (some .int)) := ⟨List.mem_of_getElem? (i := 817) (by decide +kernel), rfl⟩
theorem q_822 : gw (.methodLink RX9 242 yX0_bringTo) := ⟨List.mem_of_getElem? (i := 822) (by decide +kernel), rfl⟩
theorem q_823 : gw (.instanceMethod yX0_bringTo) := ⟨List.mem_of_getElem? (i := 823) (by decide +kernel), rfl⟩
theorem q_824 : gw (.selects RX0 yX0_bringTo yX0_bringTo) := ⟨List.mem_of_getElem? (i := 824) (by decide +kernel), rfl⟩
theorem q_825 : gw (.code yX0_bringTo cX0_bringTo 3 none) := ⟨List.mem_of_getElem? (i := 825) (by decide +kernel), rfl⟩
theorem q_834 : gw (.methodLink RX9 245 yX7_mayHaveSaid) := ⟨List.mem_of_getElem? (i := 834) (by decide +kernel), rfl⟩
theorem q_835 : gw (.instanceMethod yX7_mayHaveSaid) := ⟨List.mem_of_getElem? (i := 835) (by decide +kernel), rfl⟩
theorem q_836 : gw (.selects RX7 yX7_mayHaveSaid yX7_mayHaveSaid) := ⟨List.mem_of_getElem? (i := 836) (by decide +kernel), rfl⟩
theorem q_837 : gw (.code yX7_mayHaveSaid cX7_mayHaveSaid 6 (some .boolean)) := ⟨List.mem_of_getElem? (i := 837) (by decide +kernel), rfl⟩
theorem q_842 : gw (.methodLink RX9 249 yX7_caseOf) := ⟨List.mem_of_getElem? (i := 842) (by decide +kernel), rfl⟩
theorem q_847 : gw (.methodLink RX9 252 yX7_warmDay) := ⟨List.mem_of_getElem? (i := 847) (by decide +kernel), rfl⟩
theorem q_848 : gw (.instanceMethod yX7_warmDay) := ⟨List.mem_of_getElem? (i := 848) (by decide +kernel), rfl⟩
theorem q_849 : gw (.selects RX7 yX7_warmDay yX7_warmDay) := ⟨List.mem_of_getElem? (i := 849) (by decide +kernel), rfl⟩
theorem q_850 : gw (.code yX7_warmDay cX7_warmDay 4 (some .int)) := ⟨List.mem_of_getElem? (i := 850) (by decide +kernel), rfl⟩
theorem q_851 : gw (.constant RX7 200 (1103515245)) := ⟨List.mem_of_getElem? (i := 851) (by decide +kernel), rfl⟩
theorem q_860 : gw (.methodLink RX9 258 yX8_hear) := ⟨List.mem_of_getElem? (i := 860) (by decide +kernel), rfl⟩
theorem q_861 : gw (.instanceMethod yX8_hear) := ⟨List.mem_of_getElem? (i := 861) (by decide +kernel), rfl⟩
theorem q_862 : gw (.selects RX8 yX8_hear yX8_hear) := ⟨List.mem_of_getElem? (i := 862) (by decide +kernel), rfl⟩
theorem q_863 : gw (.code yX8_hear cX8_hear 5 (some .int)) := ⟨List.mem_of_getElem? (i := 863) (by decide +kernel), rfl⟩
theorem q_864 : gw (.methodLink RX8 20 yX5_clear) := ⟨List.mem_of_getElem? (i := 864) (by decide +kernel), rfl⟩
theorem q_865 : gw (.methodLink RX8 41 yX8_speak) := ⟨List.mem_of_getElem? (i := 865) (by decide +kernel), rfl⟩
theorem q_867 : gw (.instanceMethod yX8_speak) := ⟨List.mem_of_getElem? (i := 867) (by decide +kernel), rfl⟩
theorem q_868 : gw (.code yX8_speak cX8_speak 8 (some .int)) := ⟨List.mem_of_getElem? (i := 868) (by decide +kernel), rfl⟩
theorem q_869 : gw (.methodLink RX8 45 yX8_bodyFrom) := ⟨List.mem_of_getElem? (i := 869) (by decide +kernel), rfl⟩
theorem q_870 : gw (.static yX8_bodyFrom) := ⟨List.mem_of_getElem? (i := 870) (by decide +kernel), rfl⟩
theorem q_871 : gw (.code yX8_bodyFrom cX8_bodyFrom 5 (some .int)) := ⟨List.mem_of_getElem? (i := 871) (by decide +kernel), rfl⟩
theorem q_872 : nw (.methodLinkNest RX8 71 yX9_isWithin RX9) := ⟨List.mem_of_getElem? (i := 872) (by decide +kernel), rfl⟩
theorem q_873 : gw (.fieldLink RX8 75 "IceType$Voices" "BODIES" "[I") := ⟨List.mem_of_getElem? (i := 873) (by decide +kernel), rfl⟩
theorem q_875 : nw (.fieldLinkNest RX8 53 "IceType" "ABOVE" "[I" RX9) := ⟨List.mem_of_getElem? (i := 875) (by decide +kernel), rfl⟩
theorem q_876 : gw (.methodLink RX8 49 yX5_add) := ⟨List.mem_of_getElem? (i := 876) (by decide +kernel), rfl⟩
theorem q_877 : nw (.methodLinkNest RX8 57 yX9_hold RX9) := ⟨List.mem_of_getElem? (i := 877) (by decide +kernel), rfl⟩
theorem q_878 : gw (.methodLink RX8 61 yX8_part) := ⟨List.mem_of_getElem? (i := 878) (by decide +kernel), rfl⟩
theorem q_880 : gw (.instanceMethod yX8_part) := ⟨List.mem_of_getElem? (i := 880) (by decide +kernel), rfl⟩
theorem q_881 : gw (.code yX8_part cX8_part 2 (some .int)) := ⟨List.mem_of_getElem? (i := 881) (by decide +kernel), rfl⟩
theorem q_882 : nw (.methodLinkNest RX8 68 yX9_quotient RX9) := ⟨List.mem_of_getElem? (i := 882) (by decide +kernel), rfl⟩
theorem q_883 : gw (.methodLink RX8 65 yX8_castThinly) := ⟨List.mem_of_getElem? (i := 883) (by decide +kernel), rfl⟩
theorem q_885 : gw (.instanceMethod yX8_castThinly) := ⟨List.mem_of_getElem? (i := 885) (by decide +kernel), rfl⟩
theorem q_886 : gw (.code yX8_castThinly cX8_castThinly 5 (some .int)) := ⟨List.mem_of_getElem? (i := 886) (by decide +kernel), rfl⟩
theorem q_887 : gw (.constant RX9 266 (-1000000006)) := ⟨List.mem_of_getElem? (i := 887) (by decide +kernel), rfl⟩
theorem q_896 : gw (.methodLink RX9 270 yX9_isPlate) := ⟨List.mem_of_getElem? (i := 896) (by decide +kernel), rfl⟩
theorem q_897 : gw (.static yX9_isPlate) := ⟨List.mem_of_getElem? (i := 897) (by decide +kernel), rfl⟩
theorem q_898 : gw (.code yX9_isPlate cX9_isPlate 1 (some .boolean)) := ⟨List.mem_of_getElem? (i := 898) (by decide +kernel), rfl⟩
theorem q_899 : gw (.methodLink RX9 279 yX5_beZeros) := ⟨List.mem_of_getElem? (i := 899) (by decide +kernel), rfl⟩
theorem q_900 : gw (.instanceMethod yX5_beZeros) := ⟨List.mem_of_getElem? (i := 900) (by decide +kernel), rfl⟩
theorem q_901 : gw (.selects RX5 yX5_beZeros yX5_beZeros) := ⟨List.mem_of_getElem? (i := 901) (by decide +kernel), rfl⟩
theorem q_902 : gw (.code yX5_beZeros cX5_beZeros 3 none) := ⟨List.mem_of_getElem? (i := 902) (by decide +kernel), rfl⟩
theorem q_903 : nw (.methodLinkNest RX5 29 yX9_hold RX9) := ⟨List.mem_of_getElem? (i := 903) (by decide +kernel), rfl⟩
theorem q_908 : gw (.methodLink RX9 282 yX4_isMissing) := ⟨List.mem_of_getElem? (i := 908) (by decide +kernel), rfl⟩
theorem q_909 : gw (.instanceMethod yX4_isMissing) := ⟨List.mem_of_getElem? (i := 909) (by decide +kernel), rfl⟩
theorem q_910 : gw (.selects RX4 yX4_isMissing yX4_isMissing) := ⟨List.mem_of_getElem? (i := 910) (by decide +kernel), rfl⟩
theorem q_911 : gw (.code yX4_isMissing cX4_isMissing 1 (some .boolean)) := ⟨List.mem_of_getElem? (i := 911) (by decide +kernel), rfl⟩
theorem q_912 : gw (.methodLink RX9 285 yX4_lowestBits) := ⟨List.mem_of_getElem? (i := 912) (by decide +kernel), rfl⟩
theorem q_913 : gw (.instanceMethod yX4_lowestBits) := ⟨List.mem_of_getElem? (i := 913) (by decide +kernel), rfl⟩
theorem q_914 : gw (.selects RX4 yX4_lowestBits yX4_lowestBits) := ⟨List.mem_of_getElem? (i := 914) (by decide +kernel), rfl⟩
theorem q_915 : gw (.code yX4_lowestBits cX4_lowestBits 2 (some .int)) := ⟨List.mem_of_getElem? (i := 915) (by decide +kernel), rfl⟩
theorem q_916 : gw (.methodLink RX9 288 yX5_change) := ⟨List.mem_of_getElem? (i := 916) (by decide +kernel), rfl⟩
theorem q_917 : gw (.instanceMethod yX5_change) := ⟨List.mem_of_getElem? (i := 917) (by decide +kernel), rfl⟩
theorem q_918 : gw (.selects RX5 yX5_change yX5_change) := ⟨List.mem_of_getElem? (i := 918) (by decide +kernel), rfl⟩
theorem q_919 : gw (.code yX5_change cX5_change 3 (some .boolean)) := ⟨List.mem_of_getElem? (i := 919) (by decide +kernel), rfl⟩
theorem q_924 : gw (.methodLink RX9 291 yX5_bring) := ⟨List.mem_of_getElem? (i := 924) (by decide +kernel), rfl⟩
theorem q_925 : gw (.instanceMethod yX5_bring) := ⟨List.mem_of_getElem? (i := 925) (by decide +kernel), rfl⟩
theorem q_926 : gw (.selects RX5 yX5_bring yX5_bring) := ⟨List.mem_of_getElem? (i := 926) (by decide +kernel), rfl⟩
theorem q_927 : gw (.code yX5_bring cX5_bring 5 (some .boolean)) := ⟨List.mem_of_getElem? (i := 927) (by decide +kernel), rfl⟩
theorem q_928 : gw (.methodLink RX5 42 yX5_has) := ⟨List.mem_of_getElem? (i := 928) (by decide +kernel), rfl⟩
theorem q_929 : gw (.instanceMethod yX5_has) := ⟨List.mem_of_getElem? (i := 929) (by decide +kernel), rfl⟩
theorem q_930 : gw (.selects RX5 yX5_has yX5_has) := ⟨List.mem_of_getElem? (i := 930) (by decide +kernel), rfl⟩
theorem q_931 : gw (.code yX5_has cX5_has 3 (some .boolean)) := ⟨List.mem_of_getElem? (i := 931) (by decide +kernel), rfl⟩
theorem q_940 : gw (.methodLink RX9 295 yX0_seen) := ⟨List.mem_of_getElem? (i := 940) (by decide +kernel), rfl⟩
theorem q_945 : gw (.methodLink RX9 298 yX7_takeFrom) := ⟨List.mem_of_getElem? (i := 945) (by decide +kernel), rfl⟩
theorem q_946 : gw (.instanceMethod yX7_takeFrom) := ⟨List.mem_of_getElem? (i := 946) (by decide +kernel), rfl⟩
theorem q_947 : gw (.selects RX7 yX7_takeFrom yX7_takeFrom) := ⟨List.mem_of_getElem? (i := 947) (by decide +kernel), rfl⟩
theorem q_948 : gw (.code yX7_takeFrom cX7_takeFrom 3 none) := ⟨List.mem_of_getElem? (i := 948) (by decide +kernel), rfl⟩
theorem q_949 : gw (.methodLink RX7 61 arraycopyName) := ⟨List.mem_of_getElem? (i := 949) (by decide +kernel), rfl⟩
theorem q_950 : gw (.methodLink RX7 79 yX3_takeFrom) := ⟨List.mem_of_getElem? (i := 950) (by decide +kernel), rfl⟩
theorem q_951 : gw (.methodLink RX7 83 yX5_takeFrom) := ⟨List.mem_of_getElem? (i := 951) (by decide +kernel), rfl⟩
theorem q_964 : gw (.methodLink RX9 306 yX7_checkWaiting) := ⟨List.mem_of_getElem? (i := 964) (by decide +kernel), rfl⟩
theorem q_965 : gw (.instanceMethod yX7_checkWaiting) := ⟨List.mem_of_getElem? (i := 965) (by decide +kernel), rfl⟩
theorem q_966 : gw (.selects RX7 yX7_checkWaiting yX7_checkWaiting) := ⟨List.mem_of_getElem? (i := 966) (by decide +kernel), rfl⟩
theorem q_967 : gw (.code yX7_checkWaiting cX7_checkWaiting 4 (some .int)) := ⟨List.mem_of_getElem? (i := 967) (by decide +kernel), rfl⟩
theorem q_972 : gw (.methodLink RX9 312 yX7_iceOfAll) := ⟨List.mem_of_getElem? (i := 972) (by decide +kernel), rfl⟩
theorem q_973 : gw (.instanceMethod yX7_iceOfAll) := ⟨List.mem_of_getElem? (i := 973) (by decide +kernel), rfl⟩
theorem q_974 : gw (.selects RX7 yX7_iceOfAll yX7_iceOfAll) := ⟨List.mem_of_getElem? (i := 974) (by decide +kernel), rfl⟩
theorem q_975 : gw (.code yX7_iceOfAll cX7_iceOfAll 3 (some .int)) := ⟨List.mem_of_getElem? (i := 975) (by decide +kernel), rfl⟩
theorem q_986 : gw (.fieldLink RX10 7 RX10 (TX10 0).2.1 (TX10 0).2.2.1) := ⟨List.mem_of_getElem? (i := 986) (by decide +kernel), rfl⟩
theorem q_987 : gw (.fieldLink RX10 13 RX10 (TX10 1).2.1 (TX10 1).2.2.1) := ⟨List.mem_of_getElem? (i := 987) (by decide +kernel), rfl⟩
theorem q_988 : gw (.fieldLink RX10 16 RX10 (TX10 2).2.1 (TX10 2).2.2.1) := ⟨List.mem_of_getElem? (i := 988) (by decide +kernel), rfl⟩
theorem q_989 : gw (.fieldLink RX10 272 RX10 (TX10 3).2.1 (TX10 3).2.2.1) := ⟨List.mem_of_getElem? (i := 989) (by decide +kernel), rfl⟩
theorem q_990 : gw (.fieldLink RX10 19 RX10 (TX10 4).2.1 (TX10 4).2.2.1) := ⟨List.mem_of_getElem? (i := 990) (by decide +kernel), rfl⟩
theorem q_991 : gw (.fieldLink RX10 84 RX10 (TX10 5).2.1 (TX10 5).2.2.1) := ⟨List.mem_of_getElem? (i := 991) (by decide +kernel), rfl⟩
theorem q_992 : gw (.fieldLink RX10 118 RX10 (TX10 6).2.1 (TX10 6).2.2.1) := ⟨List.mem_of_getElem? (i := 992) (by decide +kernel), rfl⟩
theorem q_993 : gw (.fieldLink RX10 91 RX10 (TX10 7).2.1 (TX10 7).2.2.1) := ⟨List.mem_of_getElem? (i := 993) (by decide +kernel), rfl⟩
theorem q_994 : gw (.fieldLink RX10 88 RX10 (TX10 8).2.1 (TX10 8).2.2.1) := ⟨List.mem_of_getElem? (i := 994) (by decide +kernel), rfl⟩
theorem q_995 : gw (.fieldLink RX10 22 RX10 (TX10 9).2.1 (TX10 9).2.2.1) := ⟨List.mem_of_getElem? (i := 995) (by decide +kernel), rfl⟩
theorem q_996 : gw (.fieldLink RX10 25 RX10 (TX10 10).2.1 (TX10 10).2.2.1) := ⟨List.mem_of_getElem? (i := 996) (by decide +kernel), rfl⟩
theorem q_997 : gw (.fieldLink RX10 28 RX10 (TX10 11).2.1 (TX10 11).2.2.1) := ⟨List.mem_of_getElem? (i := 997) (by decide +kernel), rfl⟩
theorem q_998 : gw (.fieldLink RX10 31 RX10 (TX10 12).2.1 (TX10 12).2.2.1) := ⟨List.mem_of_getElem? (i := 998) (by decide +kernel), rfl⟩
theorem q_999 : gw (.fieldLink RX10 34 RX10 (TX10 13).2.1 (TX10 13).2.2.1) := ⟨List.mem_of_getElem? (i := 999) (by decide +kernel), rfl⟩
theorem q_1000 : gw (.fieldLink RX10 37 RX10 (TX10 14).2.1 (TX10 14).2.2.1) := ⟨List.mem_of_getElem? (i := 1000) (by decide +kernel), rfl⟩
theorem q_1001 : gw (.fieldLink RX10 204 RX10 (TX10 15).2.1 (TX10 15).2.2.1) := ⟨List.mem_of_getElem? (i := 1001) (by decide +kernel), rfl⟩
theorem q_1002 : gw (.fieldLink RX10 210 RX10 (TX10 16).2.1 (TX10 16).2.2.1) := ⟨List.mem_of_getElem? (i := 1002) (by decide +kernel), rfl⟩
theorem q_1003 : gw (.fieldLink RX10 40 RX10 (TX10 17).2.1 (TX10 17).2.2.1) := ⟨List.mem_of_getElem? (i := 1003) (by decide +kernel), rfl⟩
theorem q_1004 : gw (.fieldLink RX10 43 RX10 (TX10 18).2.1 (TX10 18).2.2.1) := ⟨List.mem_of_getElem? (i := 1004) (by decide +kernel), rfl⟩
theorem q_1005 : gw (.fieldLink RX10 232 RX10 (TX10 19).2.1 (TX10 19).2.2.1) := ⟨List.mem_of_getElem? (i := 1005) (by decide +kernel), rfl⟩
theorem q_1006 : gw (.fieldLink RX10 235 RX10 (TX10 20).2.1 (TX10 20).2.2.1) := ⟨List.mem_of_getElem? (i := 1006) (by decide +kernel), rfl⟩
theorem q_1007 : gw (.fieldLink RX10 259 RX10 (TX10 21).2.1 (TX10 21).2.2.1) := ⟨List.mem_of_getElem? (i := 1007) (by decide +kernel), rfl⟩
theorem q_1008 : gw (.fieldLink RX10 46 RX10 (TX10 22).2.1 (TX10 22).2.2.1) := ⟨List.mem_of_getElem? (i := 1008) (by decide +kernel), rfl⟩
theorem q_1009 : gw (.fieldLink RX10 49 RX10 (TX10 23).2.1 (TX10 23).2.2.1) := ⟨List.mem_of_getElem? (i := 1009) (by decide +kernel), rfl⟩
theorem q_1010 : gw (.fieldLink RX10 52 RX10 (TX10 24).2.1 (TX10 24).2.2.1) := ⟨List.mem_of_getElem? (i := 1010) (by decide +kernel), rfl⟩
theorem q_1011 : gw (.fieldLink RX10 55 RX10 (TX10 25).2.1 (TX10 25).2.2.1) := ⟨List.mem_of_getElem? (i := 1011) (by decide +kernel), rfl⟩
theorem q_1012 : gw (.laysFinal RX10 RX10 "s" "[I") := ⟨List.mem_of_getElem? (i := 1012) (by decide +kernel), rfl⟩
theorem q_1014 : gw (.laysFinal RX10 RX10 "kept" "[I") := ⟨List.mem_of_getElem? (i := 1014) (by decide +kernel), rfl⟩
theorem q_1016 : gw (.laysFinal RX10 RX10 "put" "[I") := ⟨List.mem_of_getElem? (i := 1016) (by decide +kernel), rfl⟩
theorem q_1018 : gw (.lays RX10 RX10 "images" "I") := ⟨List.mem_of_getElem? (i := 1018) (by decide +kernel), rfl⟩
theorem q_1020 : gw (.laysFinal RX10 RX10 "errors" "[I") := ⟨List.mem_of_getElem? (i := 1020) (by decide +kernel), rfl⟩
theorem q_1022 : gw (.lays RX10 RX10 "at" "I") := ⟨List.mem_of_getElem? (i := 1022) (by decide +kernel), rfl⟩
theorem q_1024 : gw (.lays RX10 RX10 "open" "I") := ⟨List.mem_of_getElem? (i := 1024) (by decide +kernel), rfl⟩
theorem q_1026 : gw (.lays RX10 RX10 "steps" "I") := ⟨List.mem_of_getElem? (i := 1026) (by decide +kernel), rfl⟩
theorem q_1028 : gw (.lays RX10 RX10 "use" "I") := ⟨List.mem_of_getElem? (i := 1028) (by decide +kernel), rfl⟩
theorem q_1030 : gw (.laysFinal RX10 RX10 "step" "[I") := ⟨List.mem_of_getElem? (i := 1030) (by decide +kernel), rfl⟩
theorem q_1032 : gw (.laysFinal RX10 RX10 "named" "[I") := ⟨List.mem_of_getElem? (i := 1032) (by decide +kernel), rfl⟩
theorem q_1034 : gw (.laysFinal RX10 RX10 "pile" "[I") := ⟨List.mem_of_getElem? (i := 1034) (by decide +kernel), rfl⟩
theorem q_1036 : gw (.laysFinal RX10 RX10 "used" "[I") := ⟨List.mem_of_getElem? (i := 1036) (by decide +kernel), rfl⟩
theorem q_1038 : gw (.laysFinal RX10 RX10 "row" "[I") := ⟨List.mem_of_getElem? (i := 1038) (by decide +kernel), rfl⟩
theorem q_1040 : gw (.laysFinal RX10 RX10 "best" "[I") := ⟨List.mem_of_getElem? (i := 1040) (by decide +kernel), rfl⟩
theorem q_1042 : gw (.lays RX10 RX10 "pages" "I") := ⟨List.mem_of_getElem? (i := 1042) (by decide +kernel), rfl⟩
theorem q_1044 : gw (.lays RX10 RX10 "most" "I") := ⟨List.mem_of_getElem? (i := 1044) (by decide +kernel), rfl⟩
theorem q_1046 : gw (.laysFinal RX10 RX10 "put2" "[I") := ⟨List.mem_of_getElem? (i := 1046) (by decide +kernel), rfl⟩
theorem q_1048 : gw (.laysFinal RX10 RX10 "trace" "[I") := ⟨List.mem_of_getElem? (i := 1048) (by decide +kernel), rfl⟩
theorem q_1050 : gw (.lays RX10 RX10 "traced" "I") := ⟨List.mem_of_getElem? (i := 1050) (by decide +kernel), rfl⟩
theorem q_1052 : gw (.lays RX10 RX10 "speaks" "I") := ⟨List.mem_of_getElem? (i := 1052) (by decide +kernel), rfl⟩
theorem q_1054 : gw (.lays RX10 RX10 "isParted" "Z") := ⟨List.mem_of_getElem? (i := 1054) (by decide +kernel), rfl⟩
theorem q_1056 : gw (.laysFinal RX10 RX10 "bits" "[I") := ⟨List.mem_of_getElem? (i := 1056) (by decide +kernel), rfl⟩
theorem q_1058 : gw (.laysFinal RX10 RX10 "sizes" "[I") := ⟨List.mem_of_getElem? (i := 1058) (by decide +kernel), rfl⟩
theorem q_1060 : gw (.laysFinal RX10 RX10 "number" "[I") := ⟨List.mem_of_getElem? (i := 1060) (by decide +kernel), rfl⟩
theorem q_1062 : gw (.laysFinal RX10 RX10 "aside" "[I") := ⟨List.mem_of_getElem? (i := 1062) (by decide +kernel), rfl⟩
theorem q_1069 : gw (.methodLink RX10 72 yX10_whyNotCast) := ⟨List.mem_of_getElem? (i := 1069) (by decide +kernel), rfl⟩
theorem q_1071 : gw (.instanceMethod yX10_whyNotCast) := ⟨List.mem_of_getElem? (i := 1071) (by decide +kernel), rfl⟩
theorem q_1072 : gw (.code yX10_whyNotCast cX10_whyNotCast 4 (some .int)) := ⟨List.mem_of_getElem? (i := 1072) (by decide +kernel), rfl⟩
theorem q_1073 : gw (.methodLink RX10 59 yX10_in) := ⟨List.mem_of_getElem? (i := 1073) (by decide +kernel), rfl⟩
theorem q_1074 : gw (.static yX10_in) := ⟨List.mem_of_getElem? (i := 1074) (by decide +kernel), rfl⟩
theorem q_1075 : gw (.code yX10_in cX10_in 3 (some .boolean)) := ⟨List.mem_of_getElem? (i := 1075) (by decide +kernel), rfl⟩
theorem q_1076 : gw (.methodLink RX10 75 yX10_error) := ⟨List.mem_of_getElem? (i := 1076) (by decide +kernel), rfl⟩
theorem q_1078 : gw (.instanceMethod yX10_error) := ⟨List.mem_of_getElem? (i := 1078) (by decide +kernel), rfl⟩
theorem q_1079 : gw (.code yX10_error cX10_error 2 (some .int)) := ⟨List.mem_of_getElem? (i := 1079) (by decide +kernel), rfl⟩
theorem q_1080 : gw (.constant RX10 58 (-1000000000)) := ⟨List.mem_of_getElem? (i := 1080) (by decide +kernel), rfl⟩
theorem q_1081 : gw (.methodLink RX10 79 yX10_casts1) := ⟨List.mem_of_getElem? (i := 1081) (by decide +kernel), rfl⟩
theorem q_1083 : gw (.instanceMethod yX10_casts1) := ⟨List.mem_of_getElem? (i := 1083) (by decide +kernel), rfl⟩
theorem q_1084 : gw (.code yX10_casts1 cX10_casts1 7 (some .int)) := ⟨List.mem_of_getElem? (i := 1084) (by decide +kernel), rfl⟩
theorem q_1085 : gw (.methodLink RX10 68 yX10_lays1) := ⟨List.mem_of_getElem? (i := 1085) (by decide +kernel), rfl⟩
theorem q_1087 : gw (.instanceMethod yX10_lays1) := ⟨List.mem_of_getElem? (i := 1087) (by decide +kernel), rfl⟩
theorem q_1088 : gw (.code yX10_lays1 cX10_lays1 4 none) := ⟨List.mem_of_getElem? (i := 1088) (by decide +kernel), rfl⟩
theorem q_1089 : gw (.methodLink RX10 64 yX10_held) := ⟨List.mem_of_getElem? (i := 1089) (by decide +kernel), rfl⟩
theorem q_1090 : gw (.static yX10_held) := ⟨List.mem_of_getElem? (i := 1090) (by decide +kernel), rfl⟩
theorem q_1091 : gw (.code yX10_held cX10_held 3 (some .int)) := ⟨List.mem_of_getElem? (i := 1091) (by decide +kernel), rfl⟩
theorem q_1096 : gw (.constantLong RX10 82 (255)) := ⟨List.mem_of_getElem? (i := 1096) (by decide +kernel), rfl⟩
theorem q_1101 : gw (.methodLink RX10 128 yX10_whole) := ⟨List.mem_of_getElem? (i := 1101) (by decide +kernel), rfl⟩
theorem q_1103 : gw (.instanceMethod yX10_whole) := ⟨List.mem_of_getElem? (i := 1103) (by decide +kernel), rfl⟩
theorem q_1104 : gw (.code yX10_whole cX10_whole 1 (some .boolean)) := ⟨List.mem_of_getElem? (i := 1104) (by decide +kernel), rfl⟩
theorem q_1105 : gw (.methodLink RX10 94 yX10_both) := ⟨List.mem_of_getElem? (i := 1105) (by decide +kernel), rfl⟩
theorem q_1107 : gw (.instanceMethod yX10_both) := ⟨List.mem_of_getElem? (i := 1107) (by decide +kernel), rfl⟩
theorem q_1108 : gw (.code yX10_both cX10_both 1 (some .boolean)) := ⟨List.mem_of_getElem? (i := 1108) (by decide +kernel), rfl⟩
theorem q_1109 : gw (.methodLink RX10 106 yX10_compared) := ⟨List.mem_of_getElem? (i := 1109) (by decide +kernel), rfl⟩
theorem q_1111 : gw (.instanceMethod yX10_compared) := ⟨List.mem_of_getElem? (i := 1111) (by decide +kernel), rfl⟩
theorem q_1112 : gw (.code yX10_compared cX10_compared 2 (some .boolean)) := ⟨List.mem_of_getElem? (i := 1112) (by decide +kernel), rfl⟩
theorem q_1113 : gw (.methodLink RX10 109 yX10_sum) := ⟨List.mem_of_getElem? (i := 1113) (by decide +kernel), rfl⟩
theorem q_1115 : gw (.instanceMethod yX10_sum) := ⟨List.mem_of_getElem? (i := 1115) (by decide +kernel), rfl⟩
theorem q_1116 : gw (.code yX10_sum cX10_sum 2 (some .boolean)) := ⟨List.mem_of_getElem? (i := 1116) (by decide +kernel), rfl⟩
theorem q_1117 : gw (.methodLink RX10 112 yX10_product) := ⟨List.mem_of_getElem? (i := 1117) (by decide +kernel), rfl⟩
theorem q_1119 : gw (.instanceMethod yX10_product) := ⟨List.mem_of_getElem? (i := 1119) (by decide +kernel), rfl⟩
theorem q_1120 : gw (.code yX10_product cX10_product 2 (some .boolean)) := ⟨List.mem_of_getElem? (i := 1120) (by decide +kernel), rfl⟩
theorem q_1121 : gw (.methodLink RX10 115 yX10_one) := ⟨List.mem_of_getElem? (i := 1121) (by decide +kernel), rfl⟩
theorem q_1123 : gw (.instanceMethod yX10_one) := ⟨List.mem_of_getElem? (i := 1123) (by decide +kernel), rfl⟩
theorem q_1124 : gw (.code yX10_one cX10_one 4 (some .boolean)) := ⟨List.mem_of_getElem? (i := 1124) (by decide +kernel), rfl⟩
theorem q_1125 : gw (.methodLink RX10 98 yX10_look) := ⟨List.mem_of_getElem? (i := 1125) (by decide +kernel), rfl⟩
theorem q_1127 : gw (.instanceMethod yX10_look) := ⟨List.mem_of_getElem? (i := 1127) (by decide +kernel), rfl⟩
theorem q_1128 : gw (.code yX10_look cX10_look 1 (some .int)) := ⟨List.mem_of_getElem? (i := 1128) (by decide +kernel), rfl⟩
theorem q_1129 : gw (.methodLink RX10 121 yX10_isName) := ⟨List.mem_of_getElem? (i := 1129) (by decide +kernel), rfl⟩
theorem q_1131 : gw (.instanceMethod yX10_isName) := ⟨List.mem_of_getElem? (i := 1131) (by decide +kernel), rfl⟩
theorem q_1132 : gw (.code yX10_isName cX10_isName 2 (some .boolean)) := ⟨List.mem_of_getElem? (i := 1132) (by decide +kernel), rfl⟩
theorem q_1133 : gw (.methodLink RX10 102 yX10_lays) := ⟨List.mem_of_getElem? (i := 1133) (by decide +kernel), rfl⟩
theorem q_1135 : gw (.instanceMethod yX10_lays) := ⟨List.mem_of_getElem? (i := 1135) (by decide +kernel), rfl⟩
theorem q_1136 : gw (.code yX10_lays cX10_lays 3 none) := ⟨List.mem_of_getElem? (i := 1136) (by decide +kernel), rfl⟩
theorem q_1137 : gw (.methodLink RX10 125 yX10_opens) := ⟨List.mem_of_getElem? (i := 1137) (by decide +kernel), rfl⟩
theorem q_1139 : gw (.instanceMethod yX10_opens) := ⟨List.mem_of_getElem? (i := 1139) (by decide +kernel), rfl⟩
theorem q_1140 : gw (.code yX10_opens cX10_opens 1 (some .boolean)) := ⟨List.mem_of_getElem? (i := 1140) (by decide +kernel), rfl⟩
theorem q_1145 : gw (.methodLink RX10 131 yX10_hasText) := ⟨List.mem_of_getElem? (i := 1145) (by decide +kernel), rfl⟩
theorem q_1147 : gw (.instanceMethod yX10_hasText) := ⟨List.mem_of_getElem? (i := 1147) (by decide +kernel), rfl⟩
theorem q_1148 : gw (.code yX10_hasText cX10_hasText 2 (some .boolean)) := ⟨List.mem_of_getElem? (i := 1148) (by decide +kernel), rfl⟩
theorem q_1153 : gw (.methodLink RX10 162 yX10_isLetter) := ⟨List.mem_of_getElem? (i := 1153) (by decide +kernel), rfl⟩
theorem q_1155 : gw (.instanceMethod yX10_isLetter) := ⟨List.mem_of_getElem? (i := 1155) (by decide +kernel), rfl⟩
theorem q_1156 : gw (.code yX10_isLetter cX10_isLetter 2 (some .boolean)) := ⟨List.mem_of_getElem? (i := 1156) (by decide +kernel), rfl⟩
theorem q_1157 : gw (.methodLink RX10 165 yX10_toldLetter) := ⟨List.mem_of_getElem? (i := 1157) (by decide +kernel), rfl⟩
theorem q_1159 : gw (.instanceMethod yX10_toldLetter) := ⟨List.mem_of_getElem? (i := 1159) (by decide +kernel), rfl⟩
theorem q_1160 : gw (.code yX10_toldLetter cX10_toldLetter 3 (some .int)) := ⟨List.mem_of_getElem? (i := 1160) (by decide +kernel), rfl⟩
theorem q_1161 : gw (.methodLink RX10 156 yX10_melts) := ⟨List.mem_of_getElem? (i := 1161) (by decide +kernel), rfl⟩
theorem q_1163 : gw (.instanceMethod yX10_melts) := ⟨List.mem_of_getElem? (i := 1163) (by decide +kernel), rfl⟩
theorem q_1164 : gw (.code yX10_melts cX10_melts 5 (some .int)) := ⟨List.mem_of_getElem? (i := 1164) (by decide +kernel), rfl⟩
theorem q_1165 : gw (.methodLink RX10 137 yX10_its) := ⟨List.mem_of_getElem? (i := 1165) (by decide +kernel), rfl⟩
theorem q_1167 : gw (.instanceMethod yX10_its) := ⟨List.mem_of_getElem? (i := 1167) (by decide +kernel), rfl⟩
theorem q_1168 : gw (.code yX10_its cX10_its 3 (some .int)) := ⟨List.mem_of_getElem? (i := 1168) (by decide +kernel), rfl⟩
theorem q_1169 : gw (.methodLink RX10 141 yX10_cold) := ⟨List.mem_of_getElem? (i := 1169) (by decide +kernel), rfl⟩
theorem q_1171 : gw (.instanceMethod yX10_cold) := ⟨List.mem_of_getElem? (i := 1171) (by decide +kernel), rfl⟩
theorem q_1172 : gw (.code yX10_cold cX10_cold 2 (some .int)) := ⟨List.mem_of_getElem? (i := 1172) (by decide +kernel), rfl⟩
theorem q_1173 : gw (.methodLink RX10 147 yX10_dripsTold) := ⟨List.mem_of_getElem? (i := 1173) (by decide +kernel), rfl⟩
theorem q_1175 : gw (.instanceMethod yX10_dripsTold) := ⟨List.mem_of_getElem? (i := 1175) (by decide +kernel), rfl⟩
theorem q_1176 : gw (.code yX10_dripsTold cX10_dripsTold 2 (some .int)) := ⟨List.mem_of_getElem? (i := 1176) (by decide +kernel), rfl⟩
theorem q_1177 : gw (.methodLink RX10 144 yX10_worked) := ⟨List.mem_of_getElem? (i := 1177) (by decide +kernel), rfl⟩
theorem q_1179 : gw (.instanceMethod yX10_worked) := ⟨List.mem_of_getElem? (i := 1179) (by decide +kernel), rfl⟩
theorem q_1180 : gw (.code yX10_worked cX10_worked 7 (some .int)) := ⟨List.mem_of_getElem? (i := 1180) (by decide +kernel), rfl⟩
theorem q_1181 : gw (.methodLink RX10 134 yX10_joined) := ⟨List.mem_of_getElem? (i := 1181) (by decide +kernel), rfl⟩
theorem q_1182 : gw (.static yX10_joined) := ⟨List.mem_of_getElem? (i := 1182) (by decide +kernel), rfl⟩
theorem q_1183 : gw (.code yX10_joined cX10_joined 3 (some .int)) := ⟨List.mem_of_getElem? (i := 1183) (by decide +kernel), rfl⟩
theorem q_1184 : gw (.methodLink RX10 150 yX10_read) := ⟨List.mem_of_getElem? (i := 1184) (by decide +kernel), rfl⟩
theorem q_1186 : gw (.instanceMethod yX10_read) := ⟨List.mem_of_getElem? (i := 1186) (by decide +kernel), rfl⟩
theorem q_1187 : gw (.code yX10_read cX10_read 5 (some .int)) := ⟨List.mem_of_getElem? (i := 1187) (by decide +kernel), rfl⟩
theorem q_1188 : gw (.methodLink RX10 159 yX10_sees) := ⟨List.mem_of_getElem? (i := 1188) (by decide +kernel), rfl⟩
theorem q_1190 : gw (.instanceMethod yX10_sees) := ⟨List.mem_of_getElem? (i := 1190) (by decide +kernel), rfl⟩
theorem q_1191 : gw (.code yX10_sees cX10_sees 3 (some .int)) := ⟨List.mem_of_getElem? (i := 1191) (by decide +kernel), rfl⟩
theorem q_1192 : gw (.methodLink RX10 153 yX10_of) := ⟨List.mem_of_getElem? (i := 1192) (by decide +kernel), rfl⟩
theorem q_1194 : gw (.instanceMethod yX10_of) := ⟨List.mem_of_getElem? (i := 1194) (by decide +kernel), rfl⟩
theorem q_1195 : gw (.code yX10_of cX10_of 3 (some .int)) := ⟨List.mem_of_getElem? (i := 1195) (by decide +kernel), rfl⟩
theorem q_1200 : gw (.methodLink RX10 168 yX10_isUnder) := ⟨List.mem_of_getElem? (i := 1200) (by decide +kernel), rfl⟩
theorem q_1201 : gw (.static yX10_isUnder) := ⟨List.mem_of_getElem? (i := 1201) (by decide +kernel), rfl⟩
theorem q_1202 : gw (.code yX10_isUnder cX10_isUnder 2 (some .boolean)) := ⟨List.mem_of_getElem? (i := 1202) (by decide +kernel), rfl⟩
theorem q_1211 : gw (.methodLink RX10 172 yX10_drips) := ⟨List.mem_of_getElem? (i := 1211) (by decide +kernel), rfl⟩
theorem q_1213 : gw (.instanceMethod yX10_drips) := ⟨List.mem_of_getElem? (i := 1213) (by decide +kernel), rfl⟩
theorem q_1214 : gw (.code yX10_drips cX10_drips 3 none) := ⟨List.mem_of_getElem? (i := 1214) (by decide +kernel), rfl⟩
theorem q_1215 : gw (.constant RX10 63 (99999)) := ⟨List.mem_of_getElem? (i := 1215) (by decide +kernel), rfl⟩
theorem q_1228 : gw (.methodLink RX10 176 yX10_glyphOf) := ⟨List.mem_of_getElem? (i := 1228) (by decide +kernel), rfl⟩
theorem q_1229 : gw (.static yX10_glyphOf) := ⟨List.mem_of_getElem? (i := 1229) (by decide +kernel), rfl⟩
theorem q_1230 : gw (.code yX10_glyphOf cX10_glyphOf 1 (some .int)) := ⟨List.mem_of_getElem? (i := 1230) (by decide +kernel), rfl⟩
theorem q_1235 : gw (.methodLink RX10 179 yX10_caseOf) := ⟨List.mem_of_getElem? (i := 1235) (by decide +kernel), rfl⟩
theorem q_1237 : gw (.instanceMethod yX10_caseOf) := ⟨List.mem_of_getElem? (i := 1237) (by decide +kernel), rfl⟩
theorem q_1238 : gw (.code yX10_caseOf cX10_caseOf 4 (some .int)) := ⟨List.mem_of_getElem? (i := 1238) (by decide +kernel), rfl⟩
theorem q_1243 : gw (.methodLink RX10 182 yX10_isPage) := ⟨List.mem_of_getElem? (i := 1243) (by decide +kernel), rfl⟩
theorem q_1244 : gw (.static yX10_isPage) := ⟨List.mem_of_getElem? (i := 1244) (by decide +kernel), rfl⟩
theorem q_1245 : gw (.code yX10_isPage cX10_isPage 1 (some .boolean)) := ⟨List.mem_of_getElem? (i := 1245) (by decide +kernel), rfl⟩
theorem q_1254 : gw (.methodLink RX10 185 yX10_seen) := ⟨List.mem_of_getElem? (i := 1254) (by decide +kernel), rfl⟩
theorem q_1256 : gw (.instanceMethod yX10_seen) := ⟨List.mem_of_getElem? (i := 1256) (by decide +kernel), rfl⟩
theorem q_1257 : gw (.code yX10_seen cX10_seen 5 (some .int)) := ⟨List.mem_of_getElem? (i := 1257) (by decide +kernel), rfl⟩
theorem q_1262 : gw (.methodLink RX10 191 yX10_sheet1) := ⟨List.mem_of_getElem? (i := 1262) (by decide +kernel), rfl⟩
theorem q_1264 : gw (.instanceMethod yX10_sheet1) := ⟨List.mem_of_getElem? (i := 1264) (by decide +kernel), rfl⟩
theorem q_1265 : gw (.code yX10_sheet1 cX10_sheet1 3 (some .int)) := ⟨List.mem_of_getElem? (i := 1265) (by decide +kernel), rfl⟩
theorem q_1266 : gw (.methodLink RX10 188 yX10_meltsAll) := ⟨List.mem_of_getElem? (i := 1266) (by decide +kernel), rfl⟩
theorem q_1268 : gw (.instanceMethod yX10_meltsAll) := ⟨List.mem_of_getElem? (i := 1268) (by decide +kernel), rfl⟩
theorem q_1269 : gw (.code yX10_meltsAll cX10_meltsAll 6 none) := ⟨List.mem_of_getElem? (i := 1269) (by decide +kernel), rfl⟩
theorem q_1274 : gw (.methodLink RX10 198 yX10_isAhead) := ⟨List.mem_of_getElem? (i := 1274) (by decide +kernel), rfl⟩
theorem q_1275 : gw (.static yX10_isAhead) := ⟨List.mem_of_getElem? (i := 1275) (by decide +kernel), rfl⟩
theorem q_1276 : gw (.code yX10_isAhead cX10_isAhead 1 (some .boolean)) := ⟨List.mem_of_getElem? (i := 1276) (by decide +kernel), rfl⟩
theorem q_1277 : gw (.methodLink RX10 201 yX10_runOf) := ⟨List.mem_of_getElem? (i := 1277) (by decide +kernel), rfl⟩
theorem q_1279 : gw (.instanceMethod yX10_runOf) := ⟨List.mem_of_getElem? (i := 1279) (by decide +kernel), rfl⟩
theorem q_1280 : gw (.code yX10_runOf cX10_runOf 4 (some .int)) := ⟨List.mem_of_getElem? (i := 1280) (by decide +kernel), rfl⟩
theorem q_1281 : gw (.methodLink RX10 194 yX10_carry) := ⟨List.mem_of_getElem? (i := 1281) (by decide +kernel), rfl⟩
theorem q_1282 : gw (.static yX10_carry) := ⟨List.mem_of_getElem? (i := 1282) (by decide +kernel), rfl⟩
theorem q_1283 : gw (.code yX10_carry cX10_carry 3 none) := ⟨List.mem_of_getElem? (i := 1283) (by decide +kernel), rfl⟩
theorem q_1296 : gw (.methodLink RX10 213 yX10_tries) := ⟨List.mem_of_getElem? (i := 1296) (by decide +kernel), rfl⟩
theorem q_1298 : gw (.instanceMethod yX10_tries) := ⟨List.mem_of_getElem? (i := 1298) (by decide +kernel), rfl⟩
theorem q_1299 : gw (.code yX10_tries cX10_tries 6 none) := ⟨List.mem_of_getElem? (i := 1299) (by decide +kernel), rfl⟩
theorem q_1300 : gw (.methodLink RX10 207 yX10_clearBy) := ⟨List.mem_of_getElem? (i := 1300) (by decide +kernel), rfl⟩
theorem q_1302 : gw (.instanceMethod yX10_clearBy) := ⟨List.mem_of_getElem? (i := 1302) (by decide +kernel), rfl⟩
theorem q_1303 : gw (.code yX10_clearBy cX10_clearBy 6 (some .int)) := ⟨List.mem_of_getElem? (i := 1303) (by decide +kernel), rfl⟩
theorem q_1308 : gw (.methodLink RX10 216 yX10_runIn) := ⟨List.mem_of_getElem? (i := 1308) (by decide +kernel), rfl⟩
theorem q_1310 : gw (.instanceMethod yX10_runIn) := ⟨List.mem_of_getElem? (i := 1310) (by decide +kernel), rfl⟩
theorem q_1311 : gw (.code yX10_runIn cX10_runIn 5 (some .int)) := ⟨List.mem_of_getElem? (i := 1311) (by decide +kernel), rfl⟩
theorem q_1316 : gw (.methodLink RX10 219 yX10_lasts) := ⟨List.mem_of_getElem? (i := 1316) (by decide +kernel), rfl⟩
theorem q_1318 : gw (.instanceMethod yX10_lasts) := ⟨List.mem_of_getElem? (i := 1318) (by decide +kernel), rfl⟩
theorem q_1319 : gw (.code yX10_lasts cX10_lasts 7 (some .boolean)) := ⟨List.mem_of_getElem? (i := 1319) (by decide +kernel), rfl⟩
theorem q_1324 : gw (.methodLink RX10 222 yX10_maySay) := ⟨List.mem_of_getElem? (i := 1324) (by decide +kernel), rfl⟩
theorem q_1326 : gw (.instanceMethod yX10_maySay) := ⟨List.mem_of_getElem? (i := 1326) (by decide +kernel), rfl⟩
theorem q_1327 : gw (.code yX10_maySay cX10_maySay 7 (some .boolean)) := ⟨List.mem_of_getElem? (i := 1327) (by decide +kernel), rfl⟩
theorem q_1336 : gw (.methodLink RX10 229 yX10_day) := ⟨List.mem_of_getElem? (i := 1336) (by decide +kernel), rfl⟩
theorem q_1338 : gw (.instanceMethod yX10_day) := ⟨List.mem_of_getElem? (i := 1338) (by decide +kernel), rfl⟩
theorem q_1339 : gw (.code yX10_day cX10_day 5 (some .int)) := ⟨List.mem_of_getElem? (i := 1339) (by decide +kernel), rfl⟩
theorem q_1340 : gw (.methodLink RX10 226 yX10_draw) := ⟨List.mem_of_getElem? (i := 1340) (by decide +kernel), rfl⟩
theorem q_1342 : gw (.instanceMethod yX10_draw) := ⟨List.mem_of_getElem? (i := 1342) (by decide +kernel), rfl⟩
theorem q_1343 : gw (.code yX10_draw cX10_draw 1 (some .int)) := ⟨List.mem_of_getElem? (i := 1343) (by decide +kernel), rfl⟩
theorem q_1344 : gw (.constant RX10 225 (1103515245)) := ⟨List.mem_of_getElem? (i := 1344) (by decide +kernel), rfl⟩
theorem q_1353 : gw (.methodLink RX10 247 yX10_kindNow) := ⟨List.mem_of_getElem? (i := 1353) (by decide +kernel), rfl⟩
theorem q_1355 : gw (.instanceMethod yX10_kindNow) := ⟨List.mem_of_getElem? (i := 1355) (by decide +kernel), rfl⟩
theorem q_1356 : gw (.code yX10_kindNow cX10_kindNow 1 (some .int)) := ⟨List.mem_of_getElem? (i := 1356) (by decide +kernel), rfl⟩
theorem q_1357 : gw (.methodLink RX10 244 yX10_meltsBy) := ⟨List.mem_of_getElem? (i := 1357) (by decide +kernel), rfl⟩
theorem q_1359 : gw (.instanceMethod yX10_meltsBy) := ⟨List.mem_of_getElem? (i := 1359) (by decide +kernel), rfl⟩
theorem q_1360 : gw (.code yX10_meltsBy cX10_meltsBy 3 (some .int)) := ⟨List.mem_of_getElem? (i := 1360) (by decide +kernel), rfl⟩
theorem q_1361 : gw (.methodLink RX10 238 yX10_begins) := ⟨List.mem_of_getElem? (i := 1361) (by decide +kernel), rfl⟩
theorem q_1363 : gw (.instanceMethod yX10_begins) := ⟨List.mem_of_getElem? (i := 1363) (by decide +kernel), rfl⟩
theorem q_1364 : gw (.code yX10_begins cX10_begins 2 none) := ⟨List.mem_of_getElem? (i := 1364) (by decide +kernel), rfl⟩
theorem q_1365 : gw (.methodLink RX10 241 yX10_above) := ⟨List.mem_of_getElem? (i := 1365) (by decide +kernel), rfl⟩
theorem q_1366 : gw (.static yX10_above) := ⟨List.mem_of_getElem? (i := 1366) (by decide +kernel), rfl⟩
theorem q_1367 : gw (.code yX10_above cX10_above 1 (some .int)) := ⟨List.mem_of_getElem? (i := 1367) (by decide +kernel), rfl⟩
theorem q_1368 : gw (.methodLink RX10 250 yX10_readsBy) := ⟨List.mem_of_getElem? (i := 1368) (by decide +kernel), rfl⟩
theorem q_1370 : gw (.instanceMethod yX10_readsBy) := ⟨List.mem_of_getElem? (i := 1370) (by decide +kernel), rfl⟩
theorem q_1371 : gw (.code yX10_readsBy cX10_readsBy 3 (some .int)) := ⟨List.mem_of_getElem? (i := 1371) (by decide +kernel), rfl⟩
theorem q_1372 : gw (.methodLink RX10 253 yX10_mNow) := ⟨List.mem_of_getElem? (i := 1372) (by decide +kernel), rfl⟩
theorem q_1374 : gw (.instanceMethod yX10_mNow) := ⟨List.mem_of_getElem? (i := 1374) (by decide +kernel), rfl⟩
theorem q_1375 : gw (.code yX10_mNow cX10_mNow 1 (some .int)) := ⟨List.mem_of_getElem? (i := 1375) (by decide +kernel), rfl⟩
theorem q_1376 : gw (.methodLink RX10 256 yX10_dripsBy) := ⟨List.mem_of_getElem? (i := 1376) (by decide +kernel), rfl⟩
theorem q_1378 : gw (.instanceMethod yX10_dripsBy) := ⟨List.mem_of_getElem? (i := 1378) (by decide +kernel), rfl⟩
theorem q_1379 : gw (.code yX10_dripsBy cX10_dripsBy 3 (some .int)) := ⟨List.mem_of_getElem? (i := 1379) (by decide +kernel), rfl⟩
theorem q_1380 : gw (.methodLink RX10 263 yX10_castsBy) := ⟨List.mem_of_getElem? (i := 1380) (by decide +kernel), rfl⟩
theorem q_1382 : gw (.instanceMethod yX10_castsBy) := ⟨List.mem_of_getElem? (i := 1382) (by decide +kernel), rfl⟩
theorem q_1383 : gw (.code yX10_castsBy cX10_castsBy 5 (some .int)) := ⟨List.mem_of_getElem? (i := 1383) (by decide +kernel), rfl⟩
theorem q_1392 : gw (.methodLink RX10 266 yX10_isSheet) := ⟨List.mem_of_getElem? (i := 1392) (by decide +kernel), rfl⟩
theorem q_1393 : gw (.static yX10_isSheet) := ⟨List.mem_of_getElem? (i := 1393) (by decide +kernel), rfl⟩
theorem q_1394 : gw (.code yX10_isSheet cX10_isSheet 1 (some .boolean)) := ⟨List.mem_of_getElem? (i := 1394) (by decide +kernel), rfl⟩
theorem q_1407 : gw (.methodLink RX10 269 yX10_lacks) := ⟨List.mem_of_getElem? (i := 1407) (by decide +kernel), rfl⟩
theorem q_1409 : gw (.instanceMethod yX10_lacks) := ⟨List.mem_of_getElem? (i := 1409) (by decide +kernel), rfl⟩
theorem q_1410 : gw (.code yX10_lacks cX10_lacks 2 (some .int)) := ⟨List.mem_of_getElem? (i := 1410) (by decide +kernel), rfl⟩
theorem q_1435 : gw (.methodLink RX10 275 yX10_allIce) := ⟨List.mem_of_getElem? (i := 1435) (by decide +kernel), rfl⟩
theorem q_1437 : gw (.instanceMethod yX10_allIce) := ⟨List.mem_of_getElem? (i := 1437) (by decide +kernel), rfl⟩
theorem q_1438 : gw (.code yX10_allIce cX10_allIce 3 (some .int)) := ⟨List.mem_of_getElem? (i := 1438) (by decide +kernel), rfl⟩
theorem q_1444 : gw (.fieldLink RJ0 15 "java/lang/String" "coder" "B") := ⟨List.mem_of_getElem? (i := 1444) (by decide +kernel), rfl⟩
theorem q_1445 : gw (.fieldLink RJ0 9 "java/lang/String" "value" "[B") := ⟨List.mem_of_getElem? (i := 1445) (by decide +kernel), rfl⟩
