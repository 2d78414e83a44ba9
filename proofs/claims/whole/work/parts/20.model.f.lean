def fX10_count_B155 (w0 : Int32) (M : Mm) : Option (Int32 × Mm) :=
  some (w0, M)
theorem tX10_count_B155 (l : Launch) (G : Gx) (w0 : Int32) (M : Mm) : Sim cQi l layM G 3 cX10_count RX10 2 (some .int) 155 [] [.int w0] M (fX10_count_B155 w0 M) := by
  unfold fX10_count_B155
  exact s_iret rfl dX10_count_155
def fX10_count (a1 : Int32) (M : Mm) : Option (Int32 × Mm) :=
  if a1 = 0 then (some (M 1 (ix (0 : Int32)), M))
  else if a1 = 1 then (some (M 1 (ix (1 : Int32)), M))
  else if a1 = 2 then (some (M 1 (ix (2 : Int32)), M))
  else if a1 = 3 then (some (M 1 (ix (3 : Int32)), M))
  else if a1 = 4 then (some (M 1 (ix (4 : Int32)), M))
  else if a1 = 5 then (bd (fX10_allIce M) fun r1 M2 =>
  some (r1, M2))
  else if a1 = 6 then (some (M 1 (ix (5 : Int32)), M))
  else if a1 = 7 then (some (M 1 (ix (6 : Int32)), M))
  else if a1 = 8 then (some (M 0 19, M))
  else if a1 = 9 then (some (M 1 (ix (7 : Int32)), M))
  else bd (fX10_in a1 (10 : Int32) (13 : Int32) M) fun r3 M4 =>
  if r3 = true then (gd (inb (((8 : Int32) + a1) - (10 : Int32)) 626) <|
  fX10_count_B155 (M4 1 (ix (((8 : Int32) + a1) - (10 : Int32)))) M4)
  else bd (fX10_error (1 : Int32) M4) fun r6 M7 =>
  fX10_count_B155 r6 M7
theorem mX10_count (l : Launch) (G : Gx) (a1 : Int32) (M : Mm) : Mt cQi l layM G 3 yX10_count cX10_count 2 (some .int) [rf G 0, .int a1] M (fX10_count a1 M) := by
  refine Mt.of2 (own := RX10) (lv := [(0, rf G 0), (1, .int a1)]) rfl (by decide +kernel) rfl rfl ?_
  unfold fX10_count
  refine s_iload_n 1 dX10_count_0 rfl rfl ?_
  refine s_table (tgt := 124) dX10_count_1 (by decide) (by decide) (by decide) ?_
  refine lk_cons (k := 0) (tgt := 56) (by decide) (by decide) ?_ ?_
  · refine s_aload_n 0 dX10_count_56 rfl rfl ?_
    refine g_X10_7 (q := 1) rfl rfl dX10_count_57 ?_
    refine s_iconst (v := 0) dX10_count_60 ci_0 ?_
    refine s_iald (n := 626) rfl (by decide) dX10_count_61 ?_
    exact s_iret rfl dX10_count_62
  refine lk_cons (k := 1) (tgt := 63) (by decide) (by decide) ?_ ?_
  · refine s_aload_n 0 dX10_count_63 rfl rfl ?_
    refine g_X10_7 (q := 1) rfl rfl dX10_count_64 ?_
    refine s_iconst (v := 1) dX10_count_67 ci_1 ?_
    refine s_iald (n := 626) rfl (by decide) dX10_count_68 ?_
    exact s_iret rfl dX10_count_69
  refine lk_cons (k := 2) (tgt := 70) (by decide) (by decide) ?_ ?_
  · refine s_aload_n 0 dX10_count_70 rfl rfl ?_
    refine g_X10_7 (q := 1) rfl rfl dX10_count_71 ?_
    refine s_iconst (v := 2) dX10_count_74 ci_2 ?_
    refine s_iald (n := 626) rfl (by decide) dX10_count_75 ?_
    exact s_iret rfl dX10_count_76
  refine lk_cons (k := 3) (tgt := 77) (by decide) (by decide) ?_ ?_
  · refine s_aload_n 0 dX10_count_77 rfl rfl ?_
    refine g_X10_7 (q := 1) rfl rfl dX10_count_78 ?_
    refine s_iconst (v := 3) dX10_count_81 ci_3 ?_
    refine s_iald (n := 626) rfl (by decide) dX10_count_82 ?_
    exact s_iret rfl dX10_count_83
  refine lk_cons (k := 4) (tgt := 84) (by decide) (by decide) ?_ ?_
  · refine s_aload_n 0 dX10_count_84 rfl rfl ?_
    refine g_X10_7 (q := 1) rfl rfl dX10_count_85 ?_
    refine s_iconst (v := 4) dX10_count_88 ci_4 ?_
    refine s_iald (n := 626) rfl (by decide) dX10_count_89 ?_
    exact s_iret rfl dX10_count_90
  refine lk_cons (k := 5) (tgt := 91) (by decide) (by decide) ?_ ?_
  · refine s_aload_n 0 dX10_count_91 rfl rfl ?_
    refine s_call_i (s_runV (ci := 10) (rest := []) rfl rfl (mX10_allIce l G M) ok_X10_allIce k_X10_275 rfl rfl rfl rfl dX10_count_92) fun r1 M2 => ?_
    exact s_iret rfl dX10_count_95
  refine lk_cons (k := 6) (tgt := 96) (by decide) (by decide) ?_ ?_
  · refine s_aload_n 0 dX10_count_96 rfl rfl ?_
    refine g_X10_7 (q := 1) rfl rfl dX10_count_97 ?_
    refine s_iconst (v := 5) dX10_count_100 ci_5 ?_
    refine s_iald (n := 626) rfl (by decide) dX10_count_101 ?_
    exact s_iret rfl dX10_count_102
  refine lk_cons (k := 7) (tgt := 103) (by decide) (by decide) ?_ ?_
  · refine s_aload_n 0 dX10_count_103 rfl rfl ?_
    refine g_X10_7 (q := 1) rfl rfl dX10_count_104 ?_
    refine s_bipush (v := 6) dX10_count_107 cb_6 ?_
    refine s_iald (n := 626) rfl (by decide) dX10_count_109 ?_
    exact s_iret rfl dX10_count_110
  refine lk_cons (k := 8) (tgt := 111) (by decide) (by decide) ?_ ?_
  · refine s_aload_n 0 dX10_count_111 rfl rfl ?_
    refine g_X10_232 rfl dX10_count_112 ?_
    exact s_iret rfl dX10_count_115
  refine lk_cons (k := 9) (tgt := 116) (by decide) (by decide) ?_ ?_
  · refine s_aload_n 0 dX10_count_116 rfl rfl ?_
    refine g_X10_7 (q := 1) rfl rfl dX10_count_117 ?_
    refine s_bipush (v := 7) dX10_count_120 cb_7 ?_
    refine s_iald (n := 626) rfl (by decide) dX10_count_122 ?_
    exact s_iret rfl dX10_count_123
  refine lk_nil (tgt := 124) (by decide) ?_
  refine s_iload_n 1 dX10_count_124 rfl rfl ?_
  refine s_bipush (v := 10) dX10_count_125 cb_10 ?_
  refine s_bipush (v := 13) dX10_count_127 cb_13 ?_
  refine s_call_z (s_runS (rest := []) (mX10_in l G a1 (10 : Int32) (13 : Int32) M) ok_X10_in k_X10_59 rfl rfl rfl rfl dX10_count_129) fun r3 M4 => ?_
  refine s_ifeqB (tgt := 150) dX10_count_132 (by decide) ?_ ?_
  · refine s_aload_n 0 dX10_count_150 rfl rfl ?_
    refine s_iconst (v := 1) dX10_count_151 ci_1 ?_
    refine s_call_i (s_runV (ci := 10) (rest := []) rfl rfl (mX10_error l G (1 : Int32) M4) ok_X10_error k_X10_75 rfl rfl rfl rfl dX10_count_152) fun r6 M7 => ?_
    exact s_sub [] rfl (tX10_count_B155 l G r6 M7)
  · refine s_aload_n 0 dX10_count_135 rfl rfl ?_
    refine g_X10_7 (q := 1) rfl rfl dX10_count_136 ?_
    refine s_bipush (v := 8) dX10_count_139 cb_8 ?_
    refine s_iload_n 1 dX10_count_141 rfl rfl ?_
    refine s_iadd dX10_count_142 ?_
    refine s_bipush (v := 10) dX10_count_143 cb_10 ?_
    refine s_isub dX10_count_145 ?_
    refine s_gd fun h5 => ?_
    refine s_iald (n := 626) rfl h5 dX10_count_146 ?_
    refine s_goto (tgt := 155) dX10_count_147 (by decide) ?_
    exact s_sub [] rfl (tX10_count_B155 l G (M4 1 (ix (((8 : Int32) + a1) - (10 : Int32)))) M4)
theorem dX10_told_0 : decode cX10_told 0 = .ok (.iload_n 1, 1) := by decide +kernel
theorem dX10_told_1 : decode cX10_told 1 = .ok (.iconst 1, 1) := by decide +kernel
theorem dX10_told_2 : decode cX10_told 2 = .ok (.bipush 6, 2) := by decide +kernel
theorem dX10_told_4 : decode cX10_told 4 = .ok (.invokestatic 59, 3) := by decide +kernel
theorem dX10_told_7 : decode cX10_told 7 = .ok (.ifCond .eq 12, 3) := by decide +kernel
theorem dX10_told_10 : decode cX10_told 10 = .ok (.aload_n 0, 1) := by decide +kernel
theorem dX10_told_11 : decode cX10_told 11 = .ok (.getfield 19, 3) := by decide +kernel
theorem dX10_told_14 : decode cX10_told 14 = .ok (.iload_n 1, 1) := by decide +kernel
theorem dX10_told_15 : decode cX10_told 15 = .ok (.iaload, 1) := by decide +kernel
theorem dX10_told_16 : decode cX10_told 16 = .ok (.goto 8, 3) := by decide +kernel
theorem dX10_told_19 : decode cX10_told 19 = .ok (.aload_n 0, 1) := by decide +kernel
theorem dX10_told_20 : decode cX10_told 20 = .ok (.iconst 1, 1) := by decide +kernel
theorem dX10_told_21 : decode cX10_told 21 = .ok (.invokevirtual 75, 3) := by decide +kernel
theorem dX10_told_24 : decode cX10_told 24 = .ok (.ireturn, 1) := by decide +kernel
def fX10_told_B24 (w0 : Int32) (M : Mm) : Option (Int32 × Mm) :=
  some (w0, M)
theorem tX10_told_B24 (l : Launch) (G : Gx) (w0 : Int32) (M : Mm) : Sim cQi l layM G 2 cX10_told RX10 2 (some .int) 24 [] [.int w0] M (fX10_told_B24 w0 M) := by
  unfold fX10_told_B24
  exact s_iret rfl dX10_told_24
def fX10_told (a1 : Int32) (M : Mm) : Option (Int32 × Mm) :=
  bd (fX10_in a1 (1 : Int32) (6 : Int32) M) fun r1 M2 =>
  if r1 = true then (gd (inb a1 7) <|
  fX10_told_B24 (M2 4 (ix a1)) M2)
  else bd (fX10_error (1 : Int32) M2) fun r4 M5 =>
  fX10_told_B24 r4 M5
theorem mX10_told (l : Launch) (G : Gx) (a1 : Int32) (M : Mm) : Mt cQi l layM G 2 yX10_told cX10_told 2 (some .int) [rf G 0, .int a1] M (fX10_told a1 M) := by
  refine Mt.of2 (own := RX10) (lv := [(0, rf G 0), (1, .int a1)]) rfl (by decide +kernel) rfl rfl ?_
  unfold fX10_told
  refine s_iload_n 1 dX10_told_0 rfl rfl ?_
  refine s_iconst (v := 1) dX10_told_1 ci_1 ?_
  refine s_bipush (v := 6) dX10_told_2 cb_6 ?_
  refine s_call_z (s_runS (rest := []) (mX10_in l G a1 (1 : Int32) (6 : Int32) M) ok_X10_in k_X10_59 rfl rfl rfl rfl dX10_told_4) fun r1 M2 => ?_
  refine s_ifeqB (tgt := 19) dX10_told_7 (by decide) ?_ ?_
  · refine s_aload_n 0 dX10_told_19 rfl rfl ?_
    refine s_iconst (v := 1) dX10_told_20 ci_1 ?_
    refine s_call_i (s_runV (ci := 10) (rest := []) rfl rfl (mX10_error l G (1 : Int32) M2) ok_X10_error k_X10_75 rfl rfl rfl rfl dX10_told_21) fun r4 M5 => ?_
    exact s_sub [] rfl (tX10_told_B24 l G r4 M5)
  · refine s_aload_n 0 dX10_told_10 rfl rfl ?_
    refine g_X10_19 (q := 4) rfl rfl dX10_told_11 ?_
    refine s_iload_n 1 dX10_told_14 rfl rfl ?_
    refine s_gd fun h3 => ?_
    refine s_iald (n := 7) rfl h3 dX10_told_15 ?_
    refine s_goto (tgt := 24) dX10_told_16 (by decide) ?_
    exact s_sub [] rfl (tX10_told_B24 l G (M2 4 (ix a1)) M2)
