def fX10_melt (a1 : Int32) (M : Mm) : Option (Int32 × Mm) :=
  bd (fX10_isLetter a1 M) fun r1 M2 =>
  if r1 = true then (bd (fX10_its a1 (5 : Int32) M2) fun r5 M6 =>
  if r5 = (-1 : Int32) then (bd (fX10_its a1 (3 : Int32) M6) fun r7 M8 =>
  bd (fX10_lays1 a1 (3 : Int32) (0 : Int32) M8) fun r9 M10 =>
  bd (fX10_drips r7 M10) fun r11 M12 =>
  some (r7, M12))
  else bd (fX10_error (3 : Int32) M6) fun r13 M14 =>
  some (r13, M14))
  else bd (fX10_error (1 : Int32) M2) fun r3 M4 =>
  some (r3, M4)
theorem mX10_melt (l : Launch) (G : Gx) (a1 : Int32) (M : Mm) : Mt cQi l layM G 3 yX10_melt cX10_melt 3 (some .int) [rf G 0, .int a1] M (fX10_melt a1 M) := by
  refine Mt.of2 (own := RX10) (lv := [(0, rf G 0), (1, .int a1)]) rfl (by decide +kernel) rfl rfl ?_
  unfold fX10_melt
  refine s_aload_n 0 dX10_melt_0 rfl rfl ?_
  refine s_iload_n 1 dX10_melt_1 rfl rfl ?_
  refine s_call_z (s_runV (ci := 10) (rest := []) rfl rfl (mX10_isLetter l G a1 M) ok_X10_isLetter k_X10_162 rfl rfl rfl rfl dX10_melt_2) fun r1 M2 => ?_
  refine s_ifneB (tgt := 14) dX10_melt_5 (by decide) ?_ ?_
  · refine s_aload_n 0 dX10_melt_14 rfl rfl ?_
    refine s_iload_n 1 dX10_melt_15 rfl rfl ?_
    refine s_iconst (v := 5) dX10_melt_16 ci_5 ?_
    refine s_call_i (s_runV (ci := 10) (rest := []) rfl rfl (mX10_its l G a1 (5 : Int32) M2) ok_X10_its k_X10_137 rfl rfl rfl rfl dX10_melt_17) fun r5 M6 => ?_
    refine s_iconst (v := -1) dX10_melt_20 ci_m1 ?_
    refine s_icmpeq (tgt := 30) dX10_melt_21 (by decide) ?_ ?_
    · refine s_aload_n 0 dX10_melt_30 rfl rfl ?_
      refine s_iload_n 1 dX10_melt_31 rfl rfl ?_
      refine s_iconst (v := 3) dX10_melt_32 ci_3 ?_
      refine s_call_i (s_runV (ci := 10) (rest := []) rfl rfl (mX10_its l G a1 (3 : Int32) M6) ok_X10_its k_X10_137 rfl rfl rfl rfl dX10_melt_33) fun r7 M8 => ?_
      refine s_istore_n (lv' := [(2, .int r7), (0, rf G 0), (1, .int a1)]) dX10_melt_36 rfl rfl rfl ?_
      refine s_aload_n 1 dX10_melt_37 rfl rfl ?_
      refine s_iload_n 2 dX10_melt_38 rfl rfl ?_
      refine s_iconst (v := 3) dX10_melt_39 ci_3 ?_
      refine s_iconst (v := 0) dX10_melt_40 ci_0 ?_
      refine s_call_v (s_runV (ci := 10) (rest := []) rfl rfl (mX10_lays1 l G a1 (3 : Int32) (0 : Int32) M8) ok_X10_lays1 k_X10_68 rfl rfl rfl rfl dX10_melt_41) fun r9 M10 => ?_
      refine s_aload_n 1 dX10_melt_44 rfl rfl ?_
      refine s_iload_n 0 dX10_melt_45 rfl rfl ?_
      refine s_call_v (s_runV (ci := 10) (rest := []) rfl rfl (mX10_drips l G r7 M10) ok_X10_drips k_X10_172 rfl rfl rfl rfl dX10_melt_46) fun r11 M12 => ?_
      refine s_iload_n 0 dX10_melt_49 rfl rfl ?_
      exact s_iret rfl dX10_melt_50
    · refine s_aload_n 0 dX10_melt_24 rfl rfl ?_
      refine s_iconst (v := 3) dX10_melt_25 ci_3 ?_
      refine s_call_i (s_runV (ci := 10) (rest := []) rfl rfl (mX10_error l G (3 : Int32) M6) ok_X10_error k_X10_75 rfl rfl rfl rfl dX10_melt_26) fun r13 M14 => ?_
      exact s_iret rfl dX10_melt_29
  · refine s_aload_n 0 dX10_melt_8 rfl rfl ?_
    refine s_iconst (v := 1) dX10_melt_9 ci_1 ?_
    refine s_call_i (s_runV (ci := 10) (rest := []) rfl rfl (mX10_error l G (1 : Int32) M2) ok_X10_error k_X10_75 rfl rfl rfl rfl dX10_melt_10) fun r3 M4 => ?_
    exact s_iret rfl dX10_melt_13
theorem dX10_drink_0 : decode cX10_drink 0 = .ok (.aload_n 0, 1) := by decide +kernel
theorem dX10_drink_1 : decode cX10_drink 1 = .ok (.iload_n 1, 1) := by decide +kernel
theorem dX10_drink_2 : decode cX10_drink 2 = .ok (.invokevirtual 162, 3) := by decide +kernel
theorem dX10_drink_5 : decode cX10_drink 5 = .ok (.ifCond .ne 9, 3) := by decide +kernel
theorem dX10_drink_8 : decode cX10_drink 8 = .ok (.aload_n 0, 1) := by decide +kernel
theorem dX10_drink_9 : decode cX10_drink 9 = .ok (.iconst 1, 1) := by decide +kernel
theorem dX10_drink_10 : decode cX10_drink 10 = .ok (.invokevirtual 75, 3) := by decide +kernel
theorem dX10_drink_13 : decode cX10_drink 13 = .ok (.ireturn, 1) := by decide +kernel
theorem dX10_drink_14 : decode cX10_drink 14 = .ok (.aload_n 0, 1) := by decide +kernel
theorem dX10_drink_15 : decode cX10_drink 15 = .ok (.iload_n 1, 1) := by decide +kernel
theorem dX10_drink_16 : decode cX10_drink 16 = .ok (.iconst 3, 1) := by decide +kernel
theorem dX10_drink_17 : decode cX10_drink 17 = .ok (.invokevirtual 137, 3) := by decide +kernel
theorem dX10_drink_20 : decode cX10_drink 20 = .ok (.istore_n 2, 1) := by decide +kernel
theorem dX10_drink_21 : decode cX10_drink 21 = .ok (.aload_n 0, 1) := by decide +kernel
theorem dX10_drink_22 : decode cX10_drink 22 = .ok (.iload_n 1, 1) := by decide +kernel
theorem dX10_drink_23 : decode cX10_drink 23 = .ok (.iconst 3, 1) := by decide +kernel
theorem dX10_drink_24 : decode cX10_drink 24 = .ok (.iconst 0, 1) := by decide +kernel
theorem dX10_drink_25 : decode cX10_drink 25 = .ok (.invokevirtual 68, 3) := by decide +kernel
theorem dX10_drink_28 : decode cX10_drink 28 = .ok (.aload_n 0, 1) := by decide +kernel
theorem dX10_drink_29 : decode cX10_drink 29 = .ok (.getfield 7, 3) := by decide +kernel
theorem dX10_drink_32 : decode cX10_drink 32 = .ok (.iconst 4, 1) := by decide +kernel
theorem dX10_drink_33 : decode cX10_drink 33 = .ok (.dup2, 1) := by decide +kernel
theorem dX10_drink_34 : decode cX10_drink 34 = .ok (.iaload, 1) := by decide +kernel
theorem dX10_drink_35 : decode cX10_drink 35 = .ok (.iload_n 2, 1) := by decide +kernel
theorem dX10_drink_36 : decode cX10_drink 36 = .ok (.iadd, 1) := by decide +kernel
theorem dX10_drink_37 : decode cX10_drink 37 = .ok (.iastore, 1) := by decide +kernel
theorem dX10_drink_38 : decode cX10_drink 38 = .ok (.iload_n 2, 1) := by decide +kernel
theorem dX10_drink_39 : decode cX10_drink 39 = .ok (.ireturn, 1) := by decide +kernel
def fX10_drink (a1 : Int32) (M : Mm) : Option (Int32 × Mm) :=
  bd (fX10_isLetter a1 M) fun r1 M2 =>
  if r1 = true then (bd (fX10_its a1 (3 : Int32) M2) fun r5 M6 =>
  bd (fX10_lays1 a1 (3 : Int32) (0 : Int32) M6) fun r7 M8 =>
  lt (wr M8 1 (ix (4 : Int32)) ((M8 1 (ix (4 : Int32))) + r5)) fun M9 =>
  some (r5, M9))
  else bd (fX10_error (1 : Int32) M2) fun r3 M4 =>
  some (r3, M4)
theorem mX10_drink (l : Launch) (G : Gx) (a1 : Int32) (M : Mm) : Mt cQi l layM G 3 yX10_drink cX10_drink 3 (some .int) [rf G 0, .int a1] M (fX10_drink a1 M) := by
  refine Mt.of2 (own := RX10) (lv := [(0, rf G 0), (1, .int a1)]) rfl (by decide +kernel) rfl rfl ?_
  unfold fX10_drink
  refine s_aload_n 0 dX10_drink_0 rfl rfl ?_
  refine s_iload_n 1 dX10_drink_1 rfl rfl ?_
  refine s_call_z (s_runV (ci := 10) (rest := []) rfl rfl (mX10_isLetter l G a1 M) ok_X10_isLetter k_X10_162 rfl rfl rfl rfl dX10_drink_2) fun r1 M2 => ?_
  refine s_ifneB (tgt := 14) dX10_drink_5 (by decide) ?_ ?_
  · refine s_aload_n 0 dX10_drink_14 rfl rfl ?_
    refine s_iload_n 1 dX10_drink_15 rfl rfl ?_
    refine s_iconst (v := 3) dX10_drink_16 ci_3 ?_
    refine s_call_i (s_runV (ci := 10) (rest := []) rfl rfl (mX10_its l G a1 (3 : Int32) M2) ok_X10_its k_X10_137 rfl rfl rfl rfl dX10_drink_17) fun r5 M6 => ?_
    refine s_istore_n (lv' := [(2, .int r5), (0, rf G 0), (1, .int a1)]) dX10_drink_20 rfl rfl rfl ?_
    refine s_aload_n 1 dX10_drink_21 rfl rfl ?_
    refine s_iload_n 2 dX10_drink_22 rfl rfl ?_
    refine s_iconst (v := 3) dX10_drink_23 ci_3 ?_
    refine s_iconst (v := 0) dX10_drink_24 ci_0 ?_
    refine s_call_v (s_runV (ci := 10) (rest := []) rfl rfl (mX10_lays1 l G a1 (3 : Int32) (0 : Int32) M6) ok_X10_lays1 k_X10_68 rfl rfl rfl rfl dX10_drink_25) fun r7 M8 => ?_
    refine s_aload_n 1 dX10_drink_28 rfl rfl ?_
    refine g_X10_7 (q := 1) rfl rfl dX10_drink_29 ?_
    refine s_iconst (v := 4) dX10_drink_32 ci_4 ?_
    refine s_dup2 dX10_drink_33 rfl rfl ?_
    refine s_iald (n := 626) rfl (by decide) dX10_drink_34 ?_
    refine s_iload_n 0 dX10_drink_35 rfl rfl ?_
    refine s_iadd dX10_drink_36 ?_
    refine s_iast (n := 626) rfl (by decide) dX10_drink_37 ?_
    refine s_letM fun M9 => ?_
    refine s_iload_n 0 dX10_drink_38 rfl rfl ?_
    exact s_iret rfl dX10_drink_39
  · refine s_aload_n 0 dX10_drink_8 rfl rfl ?_
    refine s_iconst (v := 1) dX10_drink_9 ci_1 ?_
    refine s_call_i (s_runV (ci := 10) (rest := []) rfl rfl (mX10_error l G (1 : Int32) M2) ok_X10_error k_X10_75 rfl rfl rfl rfl dX10_drink_10) fun r3 M4 => ?_
    exact s_iret rfl dX10_drink_13
theorem dX10_have_0 : decode cX10_have 0 = .ok (.iload_n 1, 1) := by decide +kernel
theorem dX10_have_1 : decode cX10_have 1 = .ok (.iconst 0, 1) := by decide +kernel
theorem dX10_have_2 : decode cX10_have 2 = .ok (.iconst 3, 1) := by decide +kernel
theorem dX10_have_3 : decode cX10_have 3 = .ok (.invokestatic 59, 3) := by decide +kernel
theorem dX10_have_6 : decode cX10_have 6 = .ok (.istore_n 3, 1) := by decide +kernel
theorem dX10_have_7 : decode cX10_have 7 = .ok (.iload_n 1, 1) := by decide +kernel
theorem dX10_have_8 : decode cX10_have 8 = .ok (.iconst 0, 1) := by decide +kernel
theorem dX10_have_9 : decode cX10_have 9 = .ok (.iconst 5, 1) := by decide +kernel
theorem dX10_have_10 : decode cX10_have 10 = .ok (.invokestatic 59, 3) := by decide +kernel
theorem dX10_have_13 : decode cX10_have 13 = .ok (.ifCond .eq 42, 3) := by decide +kernel
theorem dX10_have_16 : decode cX10_have 16 = .ok (.iload_n 2, 1) := by decide +kernel
theorem dX10_have_17 : decode cX10_have 17 = .ok (.iload_n 3, 1) := by decide +kernel
theorem dX10_have_18 : decode cX10_have 18 = .ok (.ifCond .eq 8, 3) := by decide +kernel
theorem dX10_have_21 : decode cX10_have 21 = .ok (.bipush (-9), 2) := by decide +kernel
theorem dX10_have_23 : decode cX10_have 23 = .ok (.goto 4, 3) := by decide +kernel
theorem dX10_have_26 : decode cX10_have 26 = .ok (.iconst 0, 1) := by decide +kernel
theorem dX10_have_27 : decode cX10_have 27 = .ok (.iload_n 3, 1) := by decide +kernel
theorem dX10_have_28 : decode cX10_have 28 = .ok (.ifCond .eq 8, 3) := by decide +kernel
theorem dX10_have_31 : decode cX10_have 31 = .ok (.bipush 20, 2) := by decide +kernel
theorem dX10_have_33 : decode cX10_have 33 = .ok (.goto 16, 3) := by decide +kernel
theorem dX10_have_36 : decode cX10_have 36 = .ok (.iload_n 1, 1) := by decide +kernel
theorem dX10_have_37 : decode cX10_have 37 = .ok (.iconst 4, 1) := by decide +kernel
theorem dX10_have_38 : decode cX10_have 38 = .ok (.if_icmp .ne 8, 3) := by decide +kernel
theorem dX10_have_41 : decode cX10_have 41 = .ok (.ldc 63, 2) := by decide +kernel
theorem dX10_have_43 : decode cX10_have 43 = .ok (.goto 6, 3) := by decide +kernel
theorem dX10_have_46 : decode cX10_have 46 = .ok (.sipush 9999, 3) := by decide +kernel
theorem dX10_have_49 : decode cX10_have 49 = .ok (.invokestatic 59, 3) := by decide +kernel
theorem dX10_have_52 : decode cX10_have 52 = .ok (.ifCond .ne 9, 3) := by decide +kernel
theorem dX10_have_55 : decode cX10_have 55 = .ok (.aload_n 0, 1) := by decide +kernel
theorem dX10_have_56 : decode cX10_have 56 = .ok (.iconst 1, 1) := by decide +kernel
theorem dX10_have_57 : decode cX10_have 57 = .ok (.invokevirtual 75, 3) := by decide +kernel
theorem dX10_have_60 : decode cX10_have 60 = .ok (.ireturn, 1) := by decide +kernel
theorem dX10_have_61 : decode cX10_have 61 = .ok (.iload_n 3, 1) := by decide +kernel
theorem dX10_have_62 : decode cX10_have 62 = .ok (.ifCond .eq 10, 3) := by decide +kernel
theorem dX10_have_65 : decode cX10_have 65 = .ok (.bipush 8, 2) := by decide +kernel
theorem dX10_have_67 : decode cX10_have 67 = .ok (.iload_n 1, 1) := by decide +kernel
theorem dX10_have_68 : decode cX10_have 68 = .ok (.iadd, 1) := by decide +kernel
theorem dX10_have_69 : decode cX10_have 69 = .ok (.goto 13, 3) := by decide +kernel
theorem dX10_have_72 : decode cX10_have 72 = .ok (.iload_n 1, 1) := by decide +kernel
theorem dX10_have_73 : decode cX10_have 73 = .ok (.iconst 4, 1) := by decide +kernel
theorem dX10_have_74 : decode cX10_have 74 = .ok (.if_icmp .ne 7, 3) := by decide +kernel
theorem dX10_have_77 : decode cX10_have 77 = .ok (.iconst 2, 1) := by decide +kernel
theorem dX10_have_78 : decode cX10_have 78 = .ok (.goto 4, 3) := by decide +kernel
theorem dX10_have_81 : decode cX10_have 81 = .ok (.iconst 3, 1) := by decide +kernel
theorem dX10_have_82 : decode cX10_have 82 = .ok (.istore 4, 2) := by decide +kernel
theorem dX10_have_84 : decode cX10_have 84 = .ok (.aload_n 0, 1) := by decide +kernel
theorem dX10_have_85 : decode cX10_have 85 = .ok (.getfield 7, 3) := by decide +kernel
theorem dX10_have_88 : decode cX10_have 88 = .ok (.iload 4, 2) := by decide +kernel
theorem dX10_have_90 : decode cX10_have 90 = .ok (.iaload, 1) := by decide +kernel
theorem dX10_have_91 : decode cX10_have 91 = .ok (.istore 5, 2) := by decide +kernel
theorem dX10_have_93 : decode cX10_have 93 = .ok (.aload_n 0, 1) := by decide +kernel
theorem dX10_have_94 : decode cX10_have 94 = .ok (.getfield 7, 3) := by decide +kernel
theorem dX10_have_97 : decode cX10_have 97 = .ok (.iload 4, 2) := by decide +kernel
theorem dX10_have_99 : decode cX10_have 99 = .ok (.iload_n 2, 1) := by decide +kernel
theorem dX10_have_100 : decode cX10_have 100 = .ok (.iastore, 1) := by decide +kernel
theorem dX10_have_101 : decode cX10_have 101 = .ok (.iload 5, 2) := by decide +kernel
theorem dX10_have_103 : decode cX10_have 103 = .ok (.ireturn, 1) := by decide +kernel
def fX10_have_B55 (M : Mm) : Option (Int32 × Mm) :=
  bd (fX10_error (1 : Int32) M) fun r7 M8 =>
  some (r7, M8)
theorem tX10_have_B55 (l : Launch) (G : Gx) (M : Mm) : Sim cQi l layM G 2 cX10_have RX10 6 (some .int) 55 [(0, rf G 0)] [] M (fX10_have_B55 M) := by
  unfold fX10_have_B55
  refine s_aload_n 0 dX10_have_55 rfl rfl ?_
  refine s_iconst (v := 1) dX10_have_56 ci_1 ?_
  refine s_call_i (s_runV (ci := 10) (rest := []) rfl rfl (mX10_error l G (1 : Int32) M) ok_X10_error k_X10_75 rfl rfl rfl rfl dX10_have_57) fun r7 M8 => ?_
  exact s_iret rfl dX10_have_60
def fX10_have_B82 (v2 : Int32) (w0 : Int32) (M : Mm) : Option (Int32 × Mm) :=
  gd (inb w0 626) <|
  lt (M 1 (ix w0)) fun x10 =>
  lt (wr M 1 (ix w0) v2) fun M11 =>
  some (x10, M11)
theorem tX10_have_B82 (l : Launch) (G : Gx) (v2 : Int32) (w0 : Int32) (M : Mm) : Sim cQi l layM G 2 cX10_have RX10 6 (some .int) 82 [(0, rf G 0), (2, .int v2)] [.int w0] M (fX10_have_B82 v2 w0 M) := by
  unfold fX10_have_B82
  refine s_istore (lv' := [(4, .int w0), (0, rf G 0), (2, .int v2)]) dX10_have_82 rfl rfl ?_
  refine s_aload_n 1 dX10_have_84 rfl rfl ?_
  refine g_X10_7 (q := 1) rfl rfl dX10_have_85 ?_
  refine s_iload 0 dX10_have_88 rfl ?_
  refine s_gd fun h9 => ?_
  refine s_iald (n := 626) rfl h9 dX10_have_90 ?_
  refine s_leti fun x10 => ?_
  refine s_istore (lv' := [(5, .int x10), (4, .int w0), (0, rf G 0), (2, .int v2)]) dX10_have_91 rfl rfl ?_
  refine s_aload_n 2 dX10_have_93 rfl rfl ?_
  refine g_X10_7 (q := 1) rfl rfl dX10_have_94 ?_
  refine s_iload 1 dX10_have_97 rfl ?_
  refine s_iload_n 3 dX10_have_99 rfl rfl ?_
  refine s_iast (n := 626) rfl h9 dX10_have_100 ?_
  refine s_letM fun M11 => ?_
  refine s_iload 0 dX10_have_101 rfl ?_
  exact s_iret rfl dX10_have_103
def fX10_have_B49 (v3 : Int32) (v1 : Int32) (v2 : Int32) (w0 : Int32) (w1 : Int32) (w2 : Int32) (M : Mm) : Option (Int32 × Mm) :=
  bd (fX10_in w2 w1 w0 M) fun r5 M6 =>
  if r5 = true then (if v3 = 0 then (if v1 = (4 : Int32) then (fX10_have_B82 v2 (2 : Int32) M6)
  else fX10_have_B82 v2 (3 : Int32) M6)
  else fX10_have_B82 v2 ((8 : Int32) + v1) M6)
  else fX10_have_B55 M6
theorem tX10_have_B49 (l : Launch) (G : Gx) (v3 : Int32) (v1 : Int32) (v2 : Int32) (w0 : Int32) (w1 : Int32) (w2 : Int32) (M : Mm) : Sim cQi l layM G 2 cX10_have RX10 6 (some .int) 49 [(3, .int v3), (0, rf G 0), (1, .int v1), (2, .int v2)] [.int w0, .int w1, .int w2] M (fX10_have_B49 v3 v1 v2 w0 w1 w2 M) := by
  unfold fX10_have_B49
  refine s_call_z (s_runS (rest := []) (mX10_in l G w2 w1 w0 M) ok_X10_in k_X10_59 rfl rfl rfl rfl dX10_have_49) fun r5 M6 => ?_
  refine s_ifneB (tgt := 61) dX10_have_52 (by decide) ?_ ?_
  · refine s_iload_n 0 dX10_have_61 rfl rfl ?_
    refine s_ifeq (tgt := 72) dX10_have_62 (by decide) ?_ ?_
    · refine s_iload_n 2 dX10_have_72 rfl rfl ?_
      refine s_iconst (v := 4) dX10_have_73 ci_4 ?_
      refine s_icmpne (tgt := 81) dX10_have_74 (by decide) ?_ ?_
      · refine s_iconst (v := 3) dX10_have_81 ci_3 ?_
        exact s_sub [1, 3] rfl (tX10_have_B82 l G v2 (3 : Int32) M6)
      · refine s_iconst (v := 2) dX10_have_77 ci_2 ?_
        refine s_goto (tgt := 82) dX10_have_78 (by decide) ?_
        exact s_sub [1, 3] rfl (tX10_have_B82 l G v2 (2 : Int32) M6)
    · refine s_bipush (v := 8) dX10_have_65 cb_8 ?_
      refine s_iload_n 2 dX10_have_67 rfl rfl ?_
      refine s_iadd dX10_have_68 ?_
      refine s_goto (tgt := 82) dX10_have_69 (by decide) ?_
      exact s_sub [1, 3] rfl (tX10_have_B82 l G v2 ((8 : Int32) + v1) M6)
  · exact s_sub [1] rfl (tX10_have_B55 l G M6)
def fX10_have_B27 (v3 : Int32) (v1 : Int32) (v2 : Int32) (w0 : Int32) (w1 : Int32) (M : Mm) : Option (Int32 × Mm) :=
  if v3 = 0 then (if v1 = (4 : Int32) then (fX10_have_B49 v3 v1 v2 (99999 : Int32) w0 w1 M)
  else fX10_have_B49 v3 v1 v2 (9999 : Int32) w0 w1 M)
  else fX10_have_B49 v3 v1 v2 (20 : Int32) w0 w1 M
theorem tX10_have_B27 (l : Launch) (G : Gx) (v3 : Int32) (v1 : Int32) (v2 : Int32) (w0 : Int32) (w1 : Int32) (M : Mm) : Sim cQi l layM G 2 cX10_have RX10 6 (some .int) 27 [(3, .int v3), (0, rf G 0), (1, .int v1), (2, .int v2)] [.int w0, .int w1] M (fX10_have_B27 v3 v1 v2 w0 w1 M) := by
  unfold fX10_have_B27
  refine s_iload_n 0 dX10_have_27 rfl rfl ?_
  refine s_ifeq (tgt := 36) dX10_have_28 (by decide) ?_ ?_
  · refine s_iload_n 2 dX10_have_36 rfl rfl ?_
    refine s_iconst (v := 4) dX10_have_37 ci_4 ?_
    refine s_icmpne (tgt := 46) dX10_have_38 (by decide) ?_ ?_
    · refine s_sipush (v := 9999) dX10_have_46 cs_9999 ?_
      exact s_sub [0, 1, 2, 3] rfl (tX10_have_B49 l G v3 v1 v2 (9999 : Int32) w0 w1 M)
    · refine s_ldc (v := 99999) dX10_have_41 q_1215 ?_
      refine s_goto (tgt := 49) dX10_have_43 (by decide) ?_
      exact s_sub [0, 1, 2, 3] rfl (tX10_have_B49 l G v3 v1 v2 (99999 : Int32) w0 w1 M)
  · refine s_bipush (v := 20) dX10_have_31 cb_20 ?_
    refine s_goto (tgt := 49) dX10_have_33 (by decide) ?_
    exact s_sub [0, 1, 2, 3] rfl (tX10_have_B49 l G v3 v1 v2 (20 : Int32) w0 w1 M)
def fX10_have (a1 : Int32) (a2 : Int32) (M : Mm) : Option (Int32 × Mm) :=
  bd (fX10_in a1 (0 : Int32) (3 : Int32) M) fun r1 M2 =>
  bd (fX10_in a1 (0 : Int32) (5 : Int32) M2) fun r3 M4 =>
  if r3 = true then (if r1 = true then (fX10_have_B27 (bi r1) a1 a2 (-9 : Int32) a2 M4)
  else fX10_have_B27 (bi r1) a1 a2 (0 : Int32) a2 M4)
  else fX10_have_B55 M4
theorem mX10_have (l : Launch) (G : Gx) (a1 : Int32) (a2 : Int32) (M : Mm) : Mt cQi l layM G 2 yX10_have cX10_have 6 (some .int) [rf G 0, .int a1, .int a2] M (fX10_have a1 a2 M) := by
  refine Mt.of2 (own := RX10) (lv := [(0, rf G 0), (1, .int a1), (2, .int a2)]) rfl (by decide +kernel) rfl rfl ?_
  unfold fX10_have
  refine s_iload_n 1 dX10_have_0 rfl rfl ?_
  refine s_iconst (v := 0) dX10_have_1 ci_0 ?_
  refine s_iconst (v := 3) dX10_have_2 ci_3 ?_
  refine s_call_z (s_runS (rest := []) (mX10_in l G a1 (0 : Int32) (3 : Int32) M) ok_X10_in k_X10_59 rfl rfl rfl rfl dX10_have_3) fun r1 M2 => ?_
  refine s_istore_n (lv' := [(3, .int (bi r1)), (0, rf G 0), (1, .int a1), (2, .int a2)]) dX10_have_6 rfl rfl rfl ?_
  refine s_iload_n 2 dX10_have_7 rfl rfl ?_
  refine s_iconst (v := 0) dX10_have_8 ci_0 ?_
  refine s_iconst (v := 5) dX10_have_9 ci_5 ?_
  refine s_call_z (s_runS (rest := []) (mX10_in l G a1 (0 : Int32) (5 : Int32) M2) ok_X10_in k_X10_59 rfl rfl rfl rfl dX10_have_10) fun r3 M4 => ?_
  refine s_ifeqB (tgt := 55) dX10_have_13 (by decide) ?_ ?_
  · exact s_sub [1] rfl (tX10_have_B55 l G M4)
  · refine s_iload_n 3 dX10_have_16 rfl rfl ?_
    refine s_iload_n 0 dX10_have_17 rfl rfl ?_
    refine s_ifeqB (tgt := 26) dX10_have_18 (by decide) ?_ ?_
    · refine s_iconst (v := 0) dX10_have_26 ci_0 ?_
      exact s_sub [0, 1, 2, 3] rfl (tX10_have_B27 l G (bi r1) a1 a2 (0 : Int32) a2 M4)
    · refine s_bipush (v := -9) dX10_have_21 cb_m9 ?_
      refine s_goto (tgt := 27) dX10_have_23 (by decide) ?_
      exact s_sub [0, 1, 2, 3] rfl (tX10_have_B27 l G (bi r1) a1 a2 (-9 : Int32) a2 M4)
theorem dX10_glyphOf_0 : decode cX10_glyphOf 0 = .ok (.iload_n 0, 1) := by decide +kernel
theorem dX10_glyphOf_1 : decode cX10_glyphOf 1 = .ok (.bipush 97, 2) := by decide +kernel
theorem dX10_glyphOf_3 : decode cX10_glyphOf 3 = .ok (.bipush 122, 2) := by decide +kernel
theorem dX10_glyphOf_5 : decode cX10_glyphOf 5 = .ok (.invokestatic 59, 3) := by decide +kernel
theorem dX10_glyphOf_8 : decode cX10_glyphOf 8 = .ok (.ifCond .eq 12, 3) := by decide +kernel
theorem dX10_glyphOf_11 : decode cX10_glyphOf 11 = .ok (.iload_n 0, 1) := by decide +kernel
theorem dX10_glyphOf_12 : decode cX10_glyphOf 12 = .ok (.bipush 97, 2) := by decide +kernel
theorem dX10_glyphOf_14 : decode cX10_glyphOf 14 = .ok (.isub, 1) := by decide +kernel
theorem dX10_glyphOf_15 : decode cX10_glyphOf 15 = .ok (.iconst 1, 1) := by decide +kernel
theorem dX10_glyphOf_16 : decode cX10_glyphOf 16 = .ok (.iadd, 1) := by decide +kernel
theorem dX10_glyphOf_17 : decode cX10_glyphOf 17 = .ok (.goto 4, 3) := by decide +kernel
theorem dX10_glyphOf_20 : decode cX10_glyphOf 20 = .ok (.iconst 0, 1) := by decide +kernel
theorem dX10_glyphOf_21 : decode cX10_glyphOf 21 = .ok (.ireturn, 1) := by decide +kernel
def fX10_glyphOf_B21 (w0 : Int32) (M : Mm) : Option (Int32 × Mm) :=
  some (w0, M)
theorem tX10_glyphOf_B21 (l : Launch) (G : Gx) (w0 : Int32) (M : Mm) : Sim cQi l layM G 2 cX10_glyphOf RX10 1 (some .int) 21 [] [.int w0] M (fX10_glyphOf_B21 w0 M) := by
  unfold fX10_glyphOf_B21
  exact s_iret rfl dX10_glyphOf_21
def fX10_glyphOf (a1 : Int32) (M : Mm) : Option (Int32 × Mm) :=
  bd (fX10_in a1 (97 : Int32) (122 : Int32) M) fun r1 M2 =>
  if r1 = true then (fX10_glyphOf_B21 ((a1 - (97 : Int32)) + (1 : Int32)) M2)
  else fX10_glyphOf_B21 (0 : Int32) M2
theorem mX10_glyphOf (l : Launch) (G : Gx) (a1 : Int32) (M : Mm) : Mt cQi l layM G 2 yX10_glyphOf cX10_glyphOf 1 (some .int) [.int a1] M (fX10_glyphOf a1 M) := by
  refine Mt.of2 (own := RX10) (lv := [(0, .int a1)]) rfl (by decide +kernel) rfl rfl ?_
  unfold fX10_glyphOf
  refine s_iload_n 0 dX10_glyphOf_0 rfl rfl ?_
  refine s_bipush (v := 97) dX10_glyphOf_1 cb_97 ?_
  refine s_bipush (v := 122) dX10_glyphOf_3 cb_122 ?_
  refine s_call_z (s_runS (rest := []) (mX10_in l G a1 (97 : Int32) (122 : Int32) M) ok_X10_in k_X10_59 rfl rfl rfl rfl dX10_glyphOf_5) fun r1 M2 => ?_
  refine s_ifeqB (tgt := 20) dX10_glyphOf_8 (by decide) ?_ ?_
  · refine s_iconst (v := 0) dX10_glyphOf_20 ci_0 ?_
    exact s_sub [] rfl (tX10_glyphOf_B21 l G (0 : Int32) M2)
  · refine s_iload_n 0 dX10_glyphOf_11 rfl rfl ?_
    refine s_bipush (v := 97) dX10_glyphOf_12 cb_97 ?_
    refine s_isub dX10_glyphOf_14 ?_
    refine s_iconst (v := 1) dX10_glyphOf_15 ci_1 ?_
    refine s_iadd dX10_glyphOf_16 ?_
    refine s_goto (tgt := 21) dX10_glyphOf_17 (by decide) ?_
    exact s_sub [] rfl (tX10_glyphOf_B21 l G ((a1 - (97 : Int32)) + (1 : Int32)) M2)
theorem dX10_word_0 : decode cX10_word 0 = .ok (.aload_n 0, 1) := by decide +kernel
theorem dX10_word_1 : decode cX10_word 1 = .ok (.getfield 7, 3) := by decide +kernel
theorem dX10_word_4 : decode cX10_word 4 = .ok (.iconst 1, 1) := by decide +kernel
theorem dX10_word_5 : decode cX10_word 5 = .ok (.iaload, 1) := by decide +kernel
theorem dX10_word_6 : decode cX10_word 6 = .ok (.bipush 8, 2) := by decide +kernel
theorem dX10_word_8 : decode cX10_word 8 = .ok (.if_icmp .ne 9, 3) := by decide +kernel
theorem dX10_word_11 : decode cX10_word 11 = .ok (.aload_n 0, 1) := by decide +kernel
theorem dX10_word_12 : decode cX10_word 12 = .ok (.iconst 4, 1) := by decide +kernel
theorem dX10_word_13 : decode cX10_word 13 = .ok (.invokevirtual 75, 3) := by decide +kernel
theorem dX10_word_16 : decode cX10_word 16 = .ok (.ireturn, 1) := by decide +kernel
theorem dX10_word_17 : decode cX10_word 17 = .ok (.aload_n 0, 1) := by decide +kernel
theorem dX10_word_18 : decode cX10_word 18 = .ok (.getfield 7, 3) := by decide +kernel
theorem dX10_word_21 : decode cX10_word 21 = .ok (.iconst 5, 1) := by decide +kernel
theorem dX10_word_22 : decode cX10_word 22 = .ok (.iaload, 1) := by decide +kernel
theorem dX10_word_23 : decode cX10_word 23 = .ok (.istore_n 1, 1) := by decide +kernel
theorem dX10_word_24 : decode cX10_word 24 = .ok (.iconst 0, 1) := by decide +kernel
theorem dX10_word_25 : decode cX10_word 25 = .ok (.istore_n 2, 1) := by decide +kernel
theorem dX10_word_26 : decode cX10_word 26 = .ok (.iload_n 2, 1) := by decide +kernel
theorem dX10_word_27 : decode cX10_word 27 = .ok (.iload_n 1, 1) := by decide +kernel
theorem dX10_word_28 : decode cX10_word 28 = .ok (.if_icmp .ge 31, 3) := by decide +kernel
theorem dX10_word_31 : decode cX10_word 31 = .ok (.iload_n 2, 1) := by decide +kernel
theorem dX10_word_32 : decode cX10_word 32 = .ok (.bipush 8, 2) := by decide +kernel
theorem dX10_word_34 : decode cX10_word 34 = .ok (.if_icmp .ge 25, 3) := by decide +kernel
theorem dX10_word_37 : decode cX10_word 37 = .ok (.aload_n 0, 1) := by decide +kernel
theorem dX10_word_38 : decode cX10_word 38 = .ok (.getfield 7, 3) := by decide +kernel
theorem dX10_word_41 : decode cX10_word 41 = .ok (.sipush 542, 3) := by decide +kernel
theorem dX10_word_44 : decode cX10_word 44 = .ok (.iload_n 2, 1) := by decide +kernel
theorem dX10_word_45 : decode cX10_word 45 = .ok (.iadd, 1) := by decide +kernel
theorem dX10_word_46 : decode cX10_word 46 = .ok (.iaload, 1) := by decide +kernel
theorem dX10_word_47 : decode cX10_word 47 = .ok (.invokestatic 176, 3) := by decide +kernel
theorem dX10_word_50 : decode cX10_word 50 = .ok (.ifCond .le 9, 3) := by decide +kernel
theorem dX10_word_53 : decode cX10_word 53 = .ok (.iinc 2 1, 3) := by decide +kernel
theorem dX10_word_56 : decode cX10_word 56 = .ok (.goto (-30), 3) := by decide +kernel
theorem dX10_word_59 : decode cX10_word 59 = .ok (.aload_n 0, 1) := by decide +kernel
theorem dX10_word_60 : decode cX10_word 60 = .ok (.getfield 7, 3) := by decide +kernel
theorem dX10_word_63 : decode cX10_word 63 = .ok (.iconst 5, 1) := by decide +kernel
theorem dX10_word_64 : decode cX10_word 64 = .ok (.iconst 0, 1) := by decide +kernel
theorem dX10_word_65 : decode cX10_word 65 = .ok (.iastore, 1) := by decide +kernel
theorem dX10_word_66 : decode cX10_word 66 = .ok (.iload_n 2, 1) := by decide +kernel
theorem dX10_word_67 : decode cX10_word 67 = .ok (.iload_n 1, 1) := by decide +kernel
theorem dX10_word_68 : decode cX10_word 68 = .ok (.if_icmp .lt 7, 3) := by decide +kernel
theorem dX10_word_71 : decode cX10_word 71 = .ok (.iload_n 1, 1) := by decide +kernel
theorem dX10_word_72 : decode cX10_word 72 = .ok (.ifCond .ne 8, 3) := by decide +kernel
theorem dX10_word_75 : decode cX10_word 75 = .ok (.bipush (-10), 2) := by decide +kernel
theorem dX10_word_77 : decode cX10_word 77 = .ok (.iload_n 2, 1) := by decide +kernel
theorem dX10_word_78 : decode cX10_word 78 = .ok (.isub, 1) := by decide +kernel
theorem dX10_word_79 : decode cX10_word 79 = .ok (.ireturn, 1) := by decide +kernel
theorem dX10_word_80 : decode cX10_word 80 = .ok (.sipush 220, 3) := by decide +kernel
theorem dX10_word_83 : decode cX10_word 83 = .ok (.bipush 9, 2) := by decide +kernel
theorem dX10_word_85 : decode cX10_word 85 = .ok (.aload_n 0, 1) := by decide +kernel
theorem dX10_word_86 : decode cX10_word 86 = .ok (.getfield 7, 3) := by decide +kernel
theorem dX10_word_89 : decode cX10_word 89 = .ok (.iconst 1, 1) := by decide +kernel
theorem dX10_word_90 : decode cX10_word 90 = .ok (.iaload, 1) := by decide +kernel
theorem dX10_word_91 : decode cX10_word 91 = .ok (.imul, 1) := by decide +kernel
theorem dX10_word_92 : decode cX10_word 92 = .ok (.iadd, 1) := by decide +kernel
theorem dX10_word_93 : decode cX10_word 93 = .ok (.istore_n 3, 1) := by decide +kernel
theorem dX10_word_94 : decode cX10_word 94 = .ok (.aload_n 0, 1) := by decide +kernel
theorem dX10_word_95 : decode cX10_word 95 = .ok (.getfield 7, 3) := by decide +kernel
theorem dX10_word_98 : decode cX10_word 98 = .ok (.iload_n 3, 1) := by decide +kernel
theorem dX10_word_99 : decode cX10_word 99 = .ok (.iload_n 1, 1) := by decide +kernel
theorem dX10_word_100 : decode cX10_word 100 = .ok (.iastore, 1) := by decide +kernel
theorem dX10_word_101 : decode cX10_word 101 = .ok (.iconst 0, 1) := by decide +kernel
theorem dX10_word_102 : decode cX10_word 102 = .ok (.istore 4, 2) := by decide +kernel
theorem dX10_word_104 : decode cX10_word 104 = .ok (.iload 4, 2) := by decide +kernel
theorem dX10_word_106 : decode cX10_word 106 = .ok (.iload_n 1, 1) := by decide +kernel
theorem dX10_word_107 : decode cX10_word 107 = .ok (.if_icmp .ge 34, 3) := by decide +kernel
theorem dX10_word_110 : decode cX10_word 110 = .ok (.aload_n 0, 1) := by decide +kernel
theorem dX10_word_111 : decode cX10_word 111 = .ok (.getfield 7, 3) := by decide +kernel
theorem dX10_word_114 : decode cX10_word 114 = .ok (.iload_n 3, 1) := by decide +kernel
theorem dX10_word_115 : decode cX10_word 115 = .ok (.iconst 1, 1) := by decide +kernel
theorem dX10_word_116 : decode cX10_word 116 = .ok (.iadd, 1) := by decide +kernel
theorem dX10_word_117 : decode cX10_word 117 = .ok (.iload 4, 2) := by decide +kernel
theorem dX10_word_119 : decode cX10_word 119 = .ok (.iadd, 1) := by decide +kernel
theorem dX10_word_120 : decode cX10_word 120 = .ok (.aload_n 0, 1) := by decide +kernel
theorem dX10_word_121 : decode cX10_word 121 = .ok (.getfield 7, 3) := by decide +kernel
theorem dX10_word_124 : decode cX10_word 124 = .ok (.sipush 542, 3) := by decide +kernel
theorem dX10_word_127 : decode cX10_word 127 = .ok (.iload 4, 2) := by decide +kernel
theorem dX10_word_129 : decode cX10_word 129 = .ok (.iadd, 1) := by decide +kernel
theorem dX10_word_130 : decode cX10_word 130 = .ok (.iaload, 1) := by decide +kernel
theorem dX10_word_131 : decode cX10_word 131 = .ok (.invokestatic 176, 3) := by decide +kernel
theorem dX10_word_134 : decode cX10_word 134 = .ok (.iastore, 1) := by decide +kernel
theorem dX10_word_135 : decode cX10_word 135 = .ok (.iinc 4 1, 3) := by decide +kernel
theorem dX10_word_138 : decode cX10_word 138 = .ok (.goto (-34), 3) := by decide +kernel
theorem dX10_word_141 : decode cX10_word 141 = .ok (.aload_n 0, 1) := by decide +kernel
theorem dX10_word_142 : decode cX10_word 142 = .ok (.getfield 7, 3) := by decide +kernel
theorem dX10_word_145 : decode cX10_word 145 = .ok (.iconst 1, 1) := by decide +kernel
theorem dX10_word_146 : decode cX10_word 146 = .ok (.dup2, 1) := by decide +kernel
theorem dX10_word_147 : decode cX10_word 147 = .ok (.iaload, 1) := by decide +kernel
theorem dX10_word_148 : decode cX10_word 148 = .ok (.iconst 1, 1) := by decide +kernel
theorem dX10_word_149 : decode cX10_word 149 = .ok (.iadd, 1) := by decide +kernel
theorem dX10_word_150 : decode cX10_word 150 = .ok (.iastore, 1) := by decide +kernel
theorem dX10_word_151 : decode cX10_word 151 = .ok (.aload_n 0, 1) := by decide +kernel
theorem dX10_word_152 : decode cX10_word 152 = .ok (.getfield 7, 3) := by decide +kernel
theorem dX10_word_155 : decode cX10_word 155 = .ok (.iconst 1, 1) := by decide +kernel
theorem dX10_word_156 : decode cX10_word 156 = .ok (.iaload, 1) := by decide +kernel
theorem dX10_word_157 : decode cX10_word 157 = .ok (.iconst 1, 1) := by decide +kernel
theorem dX10_word_158 : decode cX10_word 158 = .ok (.isub, 1) := by decide +kernel
theorem dX10_word_159 : decode cX10_word 159 = .ok (.ireturn, 1) := by decide +kernel
def fX10_word_B75 (v2 : Int32) (M : Mm) : Option (Int32 × Mm) :=
  some ((-10 : Int32) - v2, M)
theorem tX10_word_B75 (l : Launch) (G : Gx) (v2 : Int32) (M : Mm) : Sim cQi l layM G 3 cX10_word RX10 5 (some .int) 75 [(2, .int v2)] [] M (fX10_word_B75 v2 M) := by
  unfold fX10_word_B75
  refine s_bipush (v := -10) dX10_word_75 cb_m10 ?_
  refine s_iload_n 0 dX10_word_77 rfl rfl ?_
  refine s_isub dX10_word_78 ?_
  exact s_iret rfl dX10_word_79
def fX10_word_B141 (M : Mm) : Option (Int32 × Mm) :=
  lt (wr M 1 (ix (1 : Int32)) ((M 1 (ix (1 : Int32))) + (1 : Int32))) fun M6 =>
  some ((M6 1 (ix (1 : Int32))) - (1 : Int32), M6)
theorem tX10_word_B141 (l : Launch) (G : Gx) (M : Mm) : Sim cQi l layM G 3 cX10_word RX10 5 (some .int) 141 [(0, rf G 0)] [] M (fX10_word_B141 M) := by
  unfold fX10_word_B141
  refine s_aload_n 0 dX10_word_141 rfl rfl ?_
  refine g_X10_7 (q := 1) rfl rfl dX10_word_142 ?_
  refine s_iconst (v := 1) dX10_word_145 ci_1 ?_
  refine s_dup2 dX10_word_146 rfl rfl ?_
  refine s_iald (n := 626) rfl (by decide) dX10_word_147 ?_
  refine s_iconst (v := 1) dX10_word_148 ci_1 ?_
  refine s_iadd dX10_word_149 ?_
  refine s_iast (n := 626) rfl (by decide) dX10_word_150 ?_
  refine s_letM fun M6 => ?_
  refine s_aload_n 0 dX10_word_151 rfl rfl ?_
  refine g_X10_7 (q := 1) rfl rfl dX10_word_152 ?_
  refine s_iconst (v := 1) dX10_word_155 ci_1 ?_
  refine s_iald (n := 626) rfl (by decide) dX10_word_156 ?_
  refine s_iconst (v := 1) dX10_word_157 ci_1 ?_
  refine s_isub dX10_word_158 ?_
  exact s_iret rfl dX10_word_159
def fX10_word_L104b (v3 : Int32) (v1 : Int32) (q104 : Int32 → Mm → Option (Int32 × Mm)) (v4 : Int32) (M : Mm) : Option (Int32 × Mm) :=
  if v1 ≤ v4 then (fX10_word_B141 M)
  else gd (inb ((542 : Int32) + v4) 626) <|
  bd (fX10_glyphOf (M 1 (ix ((542 : Int32) + v4))) M) fun r8 M9 =>
  gd (inb ((v3 + (1 : Int32)) + v4) 626) <|
  lt (wr M9 1 (ix ((v3 + (1 : Int32)) + v4)) r8) fun M11 =>
  q104 (v4 + 1) M11
def fX10_word_L104 (v3 : Int32) (v1 : Int32) : Nat → Int32 → Mm → Option (Int32 × Mm)
  | 0 => fun _ _ => none
  | n + 1 => fX10_word_L104b v3 v1 (fX10_word_L104 v3 v1 n)
theorem tX10_word_L104b (l : Launch) (G : Gx) (v3 : Int32) (v1 : Int32) (q104 : Int32 → Mm → Option (Int32 × Mm)) (hq104 : ∀ (v4 : Int32) (M : Mm), Sim cQi l layM G 3 cX10_word RX10 5 (some .int) 104 [(4, .int v4), (3, .int v3), (1, .int v1), (0, rf G 0)] [] M (q104 v4 M)) (v4 : Int32) (M : Mm) : Sim cQi l layM G 3 cX10_word RX10 5 (some .int) 104 [(4, .int v4), (3, .int v3), (1, .int v1), (0, rf G 0)] [] M (fX10_word_L104b v3 v1 q104 v4 M) := by
  unfold fX10_word_L104b
  refine s_iload 0 dX10_word_104 rfl ?_
  refine s_iload_n 2 dX10_word_106 rfl rfl ?_
  refine s_icmpge (tgt := 141) dX10_word_107 (by decide) ?_ ?_
  · exact s_sub [3] rfl (tX10_word_B141 l G M)
  · refine s_aload_n 3 dX10_word_110 rfl rfl ?_
    refine g_X10_7 (q := 1) rfl rfl dX10_word_111 ?_
    refine s_iload_n 1 dX10_word_114 rfl rfl ?_
    refine s_iconst (v := 1) dX10_word_115 ci_1 ?_
    refine s_iadd dX10_word_116 ?_
    refine s_iload 0 dX10_word_117 rfl ?_
    refine s_iadd dX10_word_119 ?_
    refine s_aload_n 3 dX10_word_120 rfl rfl ?_
    refine g_X10_7 (q := 1) rfl rfl dX10_word_121 ?_
    refine s_sipush (v := 542) dX10_word_124 cs_542 ?_
    refine s_iload 0 dX10_word_127 rfl ?_
    refine s_iadd dX10_word_129 ?_
    refine s_gd fun h7 => ?_
    refine s_iald (n := 626) rfl h7 dX10_word_130 ?_
    refine s_call_i (s_runS (rest := [.int ((v3 + (1 : Int32)) + v4), rf G 1]) (mX10_glyphOf l G (M 1 (ix ((542 : Int32) + v4))) M) ok_X10_glyphOf k_X10_176 rfl rfl rfl rfl dX10_word_131) fun r8 M9 => ?_
    refine s_gd fun h10 => ?_
    refine s_iast (n := 626) rfl h10 dX10_word_134 ?_
    refine s_letM fun M11 => ?_
    refine s_iinc (k := 0) (lv' := [(4, .int (v4 + 1)), (3, .int v3), (1, .int v1), (0, rf G 0)]) dX10_word_135 rfl ci_1 rfl rfl ?_
    refine s_goto (tgt := 104) dX10_word_138 (by decide) ?_
    exact s_sub [0, 1, 2, 3] rfl (hq104 (v4 + 1) M11)
theorem tX10_word_L104 (l : Launch) (G : Gx) (v3 : Int32) (v1 : Int32) : ∀ (n : Nat) (v4 : Int32) (M : Mm), Sim cQi l layM G 3 cX10_word RX10 5 (some .int) 104 [(4, .int v4), (3, .int v3), (1, .int v1), (0, rf G 0)] [] M (fX10_word_L104 v3 v1 n v4 M)
  | 0, _, _ => s_none
  | n + 1, v4, M => tX10_word_L104b l G v3 v1 _ (tX10_word_L104 l G v3 v1 n) v4 M
def fX10_word_B59 (v2 : Int32) (v1 : Int32) (M : Mm) : Option (Int32 × Mm) :=
  lt (wr M 1 (ix (5 : Int32)) (0 : Int32)) fun M2 =>
  if v2 < v1 then (fX10_word_B75 v2 M2)
  else if v1 = 0 then (fX10_word_B75 v2 M2)
  else lt ((220 : Int32) + ((9 : Int32) * (M2 1 (ix (1 : Int32))))) fun x3 =>
  gd (inb x3 626) <|
  lt (wr M2 1 (ix x3) v1) fun M5 =>
  fX10_word_L104 x3 v1 FU (0 : Int32) M5
theorem tX10_word_B59 (l : Launch) (G : Gx) (v2 : Int32) (v1 : Int32) (M : Mm) : Sim cQi l layM G 3 cX10_word RX10 5 (some .int) 59 [(2, .int v2), (1, .int v1), (0, rf G 0)] [] M (fX10_word_B59 v2 v1 M) := by
  unfold fX10_word_B59
  refine s_aload_n 2 dX10_word_59 rfl rfl ?_
  refine g_X10_7 (q := 1) rfl rfl dX10_word_60 ?_
  refine s_iconst (v := 5) dX10_word_63 ci_5 ?_
  refine s_iconst (v := 0) dX10_word_64 ci_0 ?_
  refine s_iast (n := 626) rfl (by decide) dX10_word_65 ?_
  refine s_letM fun M2 => ?_
  refine s_iload_n 0 dX10_word_66 rfl rfl ?_
  refine s_iload_n 1 dX10_word_67 rfl rfl ?_
  refine s_icmplt (tgt := 75) dX10_word_68 (by decide) ?_ ?_
  · exact s_sub [0] rfl (tX10_word_B75 l G v2 M2)
  · refine s_iload_n 1 dX10_word_71 rfl rfl ?_
    refine s_ifne (tgt := 80) dX10_word_72 (by decide) ?_ ?_
    · refine s_sipush (v := 220) dX10_word_80 cs_220 ?_
      refine s_bipush (v := 9) dX10_word_83 cb_9 ?_
      refine s_aload_n 2 dX10_word_85 rfl rfl ?_
      refine g_X10_7 (q := 1) rfl rfl dX10_word_86 ?_
      refine s_iconst (v := 1) dX10_word_89 ci_1 ?_
      refine s_iald (n := 626) rfl (by decide) dX10_word_90 ?_
      refine s_imul dX10_word_91 ?_
      refine s_iadd dX10_word_92 ?_
      refine s_leti fun x3 => ?_
      refine s_istore_n (lv' := [(3, .int x3), (2, .int v2), (1, .int v1), (0, rf G 0)]) dX10_word_93 rfl rfl rfl ?_
      refine s_aload_n 3 dX10_word_94 rfl rfl ?_
      refine g_X10_7 (q := 1) rfl rfl dX10_word_95 ?_
      refine s_iload_n 0 dX10_word_98 rfl rfl ?_
      refine s_iload_n 2 dX10_word_99 rfl rfl ?_
      refine s_gd fun h4 => ?_
      refine s_iast (n := 626) rfl h4 dX10_word_100 ?_
      refine s_letM fun M5 => ?_
      refine s_iconst (v := 0) dX10_word_101 ci_0 ?_
      refine s_istore (lv' := [(4, .int (0 : Int32)), (3, .int x3), (2, .int v2), (1, .int v1), (0, rf G 0)]) dX10_word_102 rfl rfl ?_
      exact s_sub [0, 1, 3, 4] rfl (tX10_word_L104 l G x3 v1 FU (0 : Int32) M5)
    · exact s_sub [0] rfl (tX10_word_B75 l G v2 M2)
def fX10_word_L26b (v1 : Int32) (q26 : Int32 → Mm → Option (Int32 × Mm)) (v2 : Int32) (M : Mm) : Option (Int32 × Mm) :=
  if v1 ≤ v2 then (fX10_word_B59 v2 v1 M)
  else if (8 : Int32) ≤ v2 then (fX10_word_B59 v2 v1 M)
  else gd (inb ((542 : Int32) + v2) 626) <|
  bd (fX10_glyphOf (M 1 (ix ((542 : Int32) + v2))) M) fun r13 M14 =>
  if r13 ≤ 0 then (fX10_word_B59 v2 v1 M14)
  else q26 (v2 + 1) M14
def fX10_word_L26 (v1 : Int32) : Nat → Int32 → Mm → Option (Int32 × Mm)
  | 0 => fun _ _ => none
  | n + 1 => fX10_word_L26b v1 (fX10_word_L26 v1 n)
theorem tX10_word_L26b (l : Launch) (G : Gx) (v1 : Int32) (q26 : Int32 → Mm → Option (Int32 × Mm)) (hq26 : ∀ (v2 : Int32) (M : Mm), Sim cQi l layM G 3 cX10_word RX10 5 (some .int) 26 [(2, .int v2), (1, .int v1), (0, rf G 0)] [] M (q26 v2 M)) (v2 : Int32) (M : Mm) : Sim cQi l layM G 3 cX10_word RX10 5 (some .int) 26 [(2, .int v2), (1, .int v1), (0, rf G 0)] [] M (fX10_word_L26b v1 q26 v2 M) := by
  unfold fX10_word_L26b
  refine s_iload_n 0 dX10_word_26 rfl rfl ?_
  refine s_iload_n 1 dX10_word_27 rfl rfl ?_
  refine s_icmpge (tgt := 59) dX10_word_28 (by decide) ?_ ?_
  · exact s_sub [0, 1, 2] rfl (tX10_word_B59 l G v2 v1 M)
  · refine s_iload_n 0 dX10_word_31 rfl rfl ?_
    refine s_bipush (v := 8) dX10_word_32 cb_8 ?_
    refine s_icmpge (tgt := 59) dX10_word_34 (by decide) ?_ ?_
    · exact s_sub [0, 1, 2] rfl (tX10_word_B59 l G v2 v1 M)
    · refine s_aload_n 2 dX10_word_37 rfl rfl ?_
      refine g_X10_7 (q := 1) rfl rfl dX10_word_38 ?_
      refine s_sipush (v := 542) dX10_word_41 cs_542 ?_
      refine s_iload_n 0 dX10_word_44 rfl rfl ?_
      refine s_iadd dX10_word_45 ?_
      refine s_gd fun h12 => ?_
      refine s_iald (n := 626) rfl h12 dX10_word_46 ?_
      refine s_call_i (s_runS (rest := []) (mX10_glyphOf l G (M 1 (ix ((542 : Int32) + v2))) M) ok_X10_glyphOf k_X10_176 rfl rfl rfl rfl dX10_word_47) fun r13 M14 => ?_
      refine s_ifle (tgt := 59) dX10_word_50 (by decide) ?_ ?_
      · exact s_sub [0, 1, 2] rfl (tX10_word_B59 l G v2 v1 M14)
      · refine s_iinc (k := 0) (lv' := [(2, .int (v2 + 1)), (1, .int v1), (0, rf G 0)]) dX10_word_53 rfl ci_1 rfl rfl ?_
        refine s_goto (tgt := 26) dX10_word_56 (by decide) ?_
        exact s_sub [0, 1, 2] rfl (hq26 (v2 + 1) M14)
theorem tX10_word_L26 (l : Launch) (G : Gx) (v1 : Int32) : ∀ (n : Nat) (v2 : Int32) (M : Mm), Sim cQi l layM G 3 cX10_word RX10 5 (some .int) 26 [(2, .int v2), (1, .int v1), (0, rf G 0)] [] M (fX10_word_L26 v1 n v2 M)
  | 0, _, _ => s_none
  | n + 1, v2, M => tX10_word_L26b l G v1 _ (tX10_word_L26 l G v1 n) v2 M
def fX10_word  (M : Mm) : Option (Int32 × Mm) :=
  if (M 1 (ix (1 : Int32))) = (8 : Int32) then (bd (fX10_error (4 : Int32) M) fun r15 M16 =>
  some (r15, M16))
  else lt (M 1 (ix (5 : Int32))) fun x1 =>
  fX10_word_L26 x1 FU (0 : Int32) M
theorem mX10_word (l : Launch) (G : Gx)  (M : Mm) : Mt cQi l layM G 3 yX10_word cX10_word 5 (some .int) [rf G 0] M (fX10_word M) := by
  refine Mt.of2 (own := RX10) (lv := [(0, rf G 0)]) rfl (by decide +kernel) rfl rfl ?_
  unfold fX10_word
  refine s_aload_n 0 dX10_word_0 rfl rfl ?_
  refine g_X10_7 (q := 1) rfl rfl dX10_word_1 ?_
  refine s_iconst (v := 1) dX10_word_4 ci_1 ?_
  refine s_iald (n := 626) rfl (by decide) dX10_word_5 ?_
  refine s_bipush (v := 8) dX10_word_6 cb_8 ?_
  refine s_icmpne (tgt := 17) dX10_word_8 (by decide) ?_ ?_
  · refine s_aload_n 0 dX10_word_17 rfl rfl ?_
    refine g_X10_7 (q := 1) rfl rfl dX10_word_18 ?_
    refine s_iconst (v := 5) dX10_word_21 ci_5 ?_
    refine s_iald (n := 626) rfl (by decide) dX10_word_22 ?_
    refine s_leti fun x1 => ?_
    refine s_istore_n (lv' := [(1, .int x1), (0, rf G 0)]) dX10_word_23 rfl rfl rfl ?_
    refine s_iconst (v := 0) dX10_word_24 ci_0 ?_
    refine s_istore_n (lv' := [(2, .int (0 : Int32)), (1, .int x1), (0, rf G 0)]) dX10_word_25 rfl rfl rfl ?_
    exact s_sub [0, 1, 2] rfl (tX10_word_L26 l G x1 FU (0 : Int32) M)
  · refine s_aload_n 0 dX10_word_11 rfl rfl ?_
    refine s_iconst (v := 4) dX10_word_12 ci_4 ?_
    refine s_call_i (s_runV (ci := 10) (rest := []) rfl rfl (mX10_error l G (4 : Int32) M) ok_X10_error k_X10_75 rfl rfl rfl rfl dX10_word_13) fun r15 M16 => ?_
    exact s_iret rfl dX10_word_16
theorem dX10_caseOf_0 : decode cX10_caseOf 0 = .ok (.iconst 0, 1) := by decide +kernel
theorem dX10_caseOf_1 : decode cX10_caseOf 1 = .ok (.istore_n 2, 1) := by decide +kernel
theorem dX10_caseOf_2 : decode cX10_caseOf 2 = .ok (.iconst 0, 1) := by decide +kernel
theorem dX10_caseOf_3 : decode cX10_caseOf 3 = .ok (.istore_n 3, 1) := by decide +kernel
theorem dX10_caseOf_4 : decode cX10_caseOf 4 = .ok (.iload_n 3, 1) := by decide +kernel
theorem dX10_caseOf_5 : decode cX10_caseOf 5 = .ok (.aload_n 0, 1) := by decide +kernel
theorem dX10_caseOf_6 : decode cX10_caseOf 6 = .ok (.getfield 7, 3) := by decide +kernel
theorem dX10_caseOf_9 : decode cX10_caseOf 9 = .ok (.iconst 0, 1) := by decide +kernel
theorem dX10_caseOf_10 : decode cX10_caseOf 10 = .ok (.iaload, 1) := by decide +kernel
theorem dX10_caseOf_11 : decode cX10_caseOf 11 = .ok (.if_icmp .ge 45, 3) := by decide +kernel
theorem dX10_caseOf_14 : decode cX10_caseOf 14 = .ok (.iload_n 2, 1) := by decide +kernel
theorem dX10_caseOf_15 : decode cX10_caseOf 15 = .ok (.aload_n 0, 1) := by decide +kernel
theorem dX10_caseOf_16 : decode cX10_caseOf 16 = .ok (.iload_n 3, 1) := by decide +kernel
theorem dX10_caseOf_17 : decode cX10_caseOf 17 = .ok (.iconst 2, 1) := by decide +kernel
theorem dX10_caseOf_18 : decode cX10_caseOf 18 = .ok (.invokevirtual 137, 3) := by decide +kernel
theorem dX10_caseOf_21 : decode cX10_caseOf 21 = .ok (.iload_n 1, 1) := by decide +kernel
theorem dX10_caseOf_22 : decode cX10_caseOf 22 = .ok (.if_icmp .ne 25, 3) := by decide +kernel
theorem dX10_caseOf_25 : decode cX10_caseOf 25 = .ok (.aload_n 0, 1) := by decide +kernel
theorem dX10_caseOf_26 : decode cX10_caseOf 26 = .ok (.iload_n 3, 1) := by decide +kernel
theorem dX10_caseOf_27 : decode cX10_caseOf 27 = .ok (.iconst 5, 1) := by decide +kernel
theorem dX10_caseOf_28 : decode cX10_caseOf 28 = .ok (.invokevirtual 137, 3) := by decide +kernel
theorem dX10_caseOf_31 : decode cX10_caseOf 31 = .ok (.iconst (-1), 1) := by decide +kernel
theorem dX10_caseOf_32 : decode cX10_caseOf 32 = .ok (.if_icmp .ne 15, 3) := by decide +kernel
theorem dX10_caseOf_35 : decode cX10_caseOf 35 = .ok (.aload_n 0, 1) := by decide +kernel
theorem dX10_caseOf_36 : decode cX10_caseOf 36 = .ok (.iload_n 3, 1) := by decide +kernel
theorem dX10_caseOf_37 : decode cX10_caseOf 37 = .ok (.invokevirtual 150, 3) := by decide +kernel
theorem dX10_caseOf_40 : decode cX10_caseOf 40 = .ok (.ifCond .le 7, 3) := by decide +kernel
theorem dX10_caseOf_43 : decode cX10_caseOf 43 = .ok (.iconst 1, 1) := by decide +kernel
theorem dX10_caseOf_44 : decode cX10_caseOf 44 = .ok (.goto 4, 3) := by decide +kernel
theorem dX10_caseOf_47 : decode cX10_caseOf 47 = .ok (.iconst 0, 1) := by decide +kernel
theorem dX10_caseOf_48 : decode cX10_caseOf 48 = .ok (.iadd, 1) := by decide +kernel
theorem dX10_caseOf_49 : decode cX10_caseOf 49 = .ok (.istore_n 2, 1) := by decide +kernel
theorem dX10_caseOf_50 : decode cX10_caseOf 50 = .ok (.iinc 3 1, 3) := by decide +kernel
theorem dX10_caseOf_53 : decode cX10_caseOf 53 = .ok (.goto (-49), 3) := by decide +kernel
theorem dX10_caseOf_56 : decode cX10_caseOf 56 = .ok (.iload_n 2, 1) := by decide +kernel
theorem dX10_caseOf_57 : decode cX10_caseOf 57 = .ok (.ireturn, 1) := by decide +kernel
def fX10_caseOf_B56 (v2 : Int32) (M : Mm) : Option (Int32 × Mm) :=
  some (v2, M)
theorem tX10_caseOf_B56 (l : Launch) (G : Gx) (v2 : Int32) (M : Mm) : Sim cQi l layM G 3 cX10_caseOf RX10 4 (some .int) 56 [(2, .int v2)] [] M (fX10_caseOf_B56 v2 M) := by
  unfold fX10_caseOf_B56
  refine s_iload_n 0 dX10_caseOf_56 rfl rfl ?_
  exact s_iret rfl dX10_caseOf_57
def fX10_caseOf_B48 (q4 : Int32 → Int32 → Mm → Option (Int32 × Mm)) (v3 : Int32) (v1 : Int32) (w0 : Int32) (w1 : Int32) (M : Mm) : Option (Int32 × Mm) :=
  lt (w1 + w0) fun x3 =>
  q4 (v3 + 1) x3 M
theorem tX10_caseOf_B48 (l : Launch) (G : Gx) (v3 : Int32) (v1 : Int32) (w0 : Int32) (w1 : Int32) (q4 : Int32 → Int32 → Mm → Option (Int32 × Mm)) (hq4 : ∀ (v3 : Int32) (v2 : Int32) (M : Mm), Sim cQi l layM G 3 cX10_caseOf RX10 4 (some .int) 4 [(3, .int v3), (2, .int v2), (0, rf G 0), (1, .int v1)] [] M (q4 v3 v2 M)) (M : Mm) : Sim cQi l layM G 3 cX10_caseOf RX10 4 (some .int) 48 [(3, .int v3), (0, rf G 0), (1, .int v1)] [.int w0, .int w1] M (fX10_caseOf_B48 q4 v3 v1 w0 w1 M) := by
  unfold fX10_caseOf_B48
  refine s_iadd dX10_caseOf_48 ?_
  refine s_leti fun x3 => ?_
  refine s_istore_n (lv' := [(2, .int x3), (3, .int v3), (0, rf G 0), (1, .int v1)]) dX10_caseOf_49 rfl rfl rfl ?_
  refine s_iinc (k := 1) (lv' := [(3, .int (v3 + 1)), (2, .int x3), (0, rf G 0), (1, .int v1)]) dX10_caseOf_50 rfl ci_1 rfl rfl ?_
  refine s_goto (tgt := 4) dX10_caseOf_53 (by decide) ?_
  exact s_sub [0, 1, 2, 3] rfl (hq4 (v3 + 1) x3 M)
def fX10_caseOf_B47 (q4 : Int32 → Int32 → Mm → Option (Int32 × Mm)) (v3 : Int32) (v1 : Int32) (w0 : Int32) (M : Mm) : Option (Int32 × Mm) :=
  fX10_caseOf_B48 q4 v3 v1 (0 : Int32) w0 M
theorem tX10_caseOf_B47 (l : Launch) (G : Gx) (v3 : Int32) (v1 : Int32) (w0 : Int32) (q4 : Int32 → Int32 → Mm → Option (Int32 × Mm)) (hq4 : ∀ (v3 : Int32) (v2 : Int32) (M : Mm), Sim cQi l layM G 3 cX10_caseOf RX10 4 (some .int) 4 [(3, .int v3), (2, .int v2), (0, rf G 0), (1, .int v1)] [] M (q4 v3 v2 M)) (M : Mm) : Sim cQi l layM G 3 cX10_caseOf RX10 4 (some .int) 47 [(3, .int v3), (0, rf G 0), (1, .int v1)] [.int w0] M (fX10_caseOf_B47 q4 v3 v1 w0 M) := by
  unfold fX10_caseOf_B47
  refine s_iconst (v := 0) dX10_caseOf_47 ci_0 ?_
  exact s_sub [0, 1, 2] rfl (tX10_caseOf_B48 l G v3 v1 (0 : Int32) w0 q4 hq4 M)
def fX10_caseOf_L4b (v1 : Int32) (q4 : Int32 → Int32 → Mm → Option (Int32 × Mm)) (v3 : Int32) (v2 : Int32) (M : Mm) : Option (Int32 × Mm) :=
  if (M 1 (ix (0 : Int32))) ≤ v3 then (fX10_caseOf_B56 v2 M)
  else bd (fX10_its v3 (2 : Int32) M) fun r1 M2 =>
  if r1 = v1 then (bd (fX10_its v3 (5 : Int32) M2) fun r4 M5 =>
  if r4 = (-1 : Int32) then (bd (fX10_read v3 M5) fun r6 M7 =>
  if r6 ≤ 0 then (fX10_caseOf_B47 q4 v3 v1 v2 M7)
  else fX10_caseOf_B48 q4 v3 v1 (1 : Int32) v2 M7)
  else fX10_caseOf_B47 q4 v3 v1 v2 M5)
  else fX10_caseOf_B47 q4 v3 v1 v2 M2
def fX10_caseOf_L4 (v1 : Int32) : Nat → Int32 → Int32 → Mm → Option (Int32 × Mm)
  | 0 => fun _ _ _ => none
  | n + 1 => fX10_caseOf_L4b v1 (fX10_caseOf_L4 v1 n)
theorem tX10_caseOf_L4b (l : Launch) (G : Gx) (v1 : Int32) (q4 : Int32 → Int32 → Mm → Option (Int32 × Mm)) (hq4 : ∀ (v3 : Int32) (v2 : Int32) (M : Mm), Sim cQi l layM G 3 cX10_caseOf RX10 4 (some .int) 4 [(3, .int v3), (2, .int v2), (0, rf G 0), (1, .int v1)] [] M (q4 v3 v2 M)) (v3 : Int32) (v2 : Int32) (M : Mm) : Sim cQi l layM G 3 cX10_caseOf RX10 4 (some .int) 4 [(3, .int v3), (2, .int v2), (0, rf G 0), (1, .int v1)] [] M (fX10_caseOf_L4b v1 q4 v3 v2 M) := by
  unfold fX10_caseOf_L4b
  refine s_iload_n 0 dX10_caseOf_4 rfl rfl ?_
  refine s_aload_n 2 dX10_caseOf_5 rfl rfl ?_
  refine g_X10_7 (q := 1) rfl rfl dX10_caseOf_6 ?_
  refine s_iconst (v := 0) dX10_caseOf_9 ci_0 ?_
  refine s_iald (n := 626) rfl (by decide) dX10_caseOf_10 ?_
  refine s_icmpge (tgt := 56) dX10_caseOf_11 (by decide) ?_ ?_
  · exact s_sub [1] rfl (tX10_caseOf_B56 l G v2 M)
  · refine s_iload_n 1 dX10_caseOf_14 rfl rfl ?_
    refine s_aload_n 2 dX10_caseOf_15 rfl rfl ?_
    refine s_iload_n 0 dX10_caseOf_16 rfl rfl ?_
    refine s_iconst (v := 2) dX10_caseOf_17 ci_2 ?_
    refine s_call_i (s_runV (ci := 10) (rest := [.int v2]) rfl rfl (mX10_its l G v3 (2 : Int32) M) ok_X10_its k_X10_137 rfl rfl rfl rfl dX10_caseOf_18) fun r1 M2 => ?_
    refine s_iload_n 3 dX10_caseOf_21 rfl rfl ?_
    refine s_icmpne (tgt := 47) dX10_caseOf_22 (by decide) ?_ ?_
    · exact s_sub [0, 2, 3] rfl (tX10_caseOf_B47 l G v3 v1 v2 q4 hq4 M2)
    · refine s_aload_n 2 dX10_caseOf_25 rfl rfl ?_
      refine s_iload_n 0 dX10_caseOf_26 rfl rfl ?_
      refine s_iconst (v := 5) dX10_caseOf_27 ci_5 ?_
      refine s_call_i (s_runV (ci := 10) (rest := [.int v2]) rfl rfl (mX10_its l G v3 (5 : Int32) M2) ok_X10_its k_X10_137 rfl rfl rfl rfl dX10_caseOf_28) fun r4 M5 => ?_
      refine s_iconst (v := -1) dX10_caseOf_31 ci_m1 ?_
      refine s_icmpne (tgt := 47) dX10_caseOf_32 (by decide) ?_ ?_
      · exact s_sub [0, 2, 3] rfl (tX10_caseOf_B47 l G v3 v1 v2 q4 hq4 M5)
      · refine s_aload_n 2 dX10_caseOf_35 rfl rfl ?_
        refine s_iload_n 0 dX10_caseOf_36 rfl rfl ?_
        refine s_call_i (s_runV (ci := 10) (rest := [.int v2]) rfl rfl (mX10_read l G v3 M5) ok_X10_read k_X10_150 rfl rfl rfl rfl dX10_caseOf_37) fun r6 M7 => ?_
        refine s_ifle (tgt := 47) dX10_caseOf_40 (by decide) ?_ ?_
        · exact s_sub [0, 2, 3] rfl (tX10_caseOf_B47 l G v3 v1 v2 q4 hq4 M7)
        · refine s_iconst (v := 1) dX10_caseOf_43 ci_1 ?_
          refine s_goto (tgt := 48) dX10_caseOf_44 (by decide) ?_
          exact s_sub [0, 2, 3] rfl (tX10_caseOf_B48 l G v3 v1 (1 : Int32) v2 q4 hq4 M7)
theorem tX10_caseOf_L4 (l : Launch) (G : Gx) (v1 : Int32) : ∀ (n : Nat) (v3 : Int32) (v2 : Int32) (M : Mm), Sim cQi l layM G 3 cX10_caseOf RX10 4 (some .int) 4 [(3, .int v3), (2, .int v2), (0, rf G 0), (1, .int v1)] [] M (fX10_caseOf_L4 v1 n v3 v2 M)
  | 0, _, _, _ => s_none
  | n + 1, v3, v2, M => tX10_caseOf_L4b l G v1 _ (tX10_caseOf_L4 l G v1 n) v3 v2 M
def fX10_caseOf (a1 : Int32) (M : Mm) : Option (Int32 × Mm) :=
  fX10_caseOf_L4 a1 FU (0 : Int32) (0 : Int32) M
theorem mX10_caseOf (l : Launch) (G : Gx) (a1 : Int32) (M : Mm) : Mt cQi l layM G 3 yX10_caseOf cX10_caseOf 4 (some .int) [rf G 0, .int a1] M (fX10_caseOf a1 M) := by
  refine Mt.of2 (own := RX10) (lv := [(0, rf G 0), (1, .int a1)]) rfl (by decide +kernel) rfl rfl ?_
  unfold fX10_caseOf
  refine s_iconst (v := 0) dX10_caseOf_0 ci_0 ?_
  refine s_istore_n (lv' := [(2, .int (0 : Int32)), (0, rf G 0), (1, .int a1)]) dX10_caseOf_1 rfl rfl rfl ?_
  refine s_iconst (v := 0) dX10_caseOf_2 ci_0 ?_
  refine s_istore_n (lv' := [(3, .int (0 : Int32)), (2, .int (0 : Int32)), (0, rf G 0), (1, .int a1)]) dX10_caseOf_3 rfl rfl rfl ?_
  exact s_sub [0, 1, 2, 3] rfl (tX10_caseOf_L4 l G a1 FU (0 : Int32) (0 : Int32) M)
theorem dX10_decree_0 : decode cX10_decree 0 = .ok (.iconst 0, 1) := by decide +kernel
theorem dX10_decree_1 : decode cX10_decree 1 = .ok (.istore_n 1, 1) := by decide +kernel
theorem dX10_decree_2 : decode cX10_decree 2 = .ok (.iload_n 1, 1) := by decide +kernel
theorem dX10_decree_3 : decode cX10_decree 3 = .ok (.bipush 27, 2) := by decide +kernel
theorem dX10_decree_5 : decode cX10_decree 5 = .ok (.if_icmp .ge 16, 3) := by decide +kernel
theorem dX10_decree_8 : decode cX10_decree 8 = .ok (.aload_n 0, 1) := by decide +kernel
theorem dX10_decree_9 : decode cX10_decree 9 = .ok (.getfield 31, 3) := by decide +kernel
theorem dX10_decree_12 : decode cX10_decree 12 = .ok (.iload_n 1, 1) := by decide +kernel
theorem dX10_decree_13 : decode cX10_decree 13 = .ok (.iconst 0, 1) := by decide +kernel
theorem dX10_decree_14 : decode cX10_decree 14 = .ok (.iastore, 1) := by decide +kernel
theorem dX10_decree_15 : decode cX10_decree 15 = .ok (.iinc 1 1, 3) := by decide +kernel
theorem dX10_decree_18 : decode cX10_decree 18 = .ok (.goto (-16), 3) := by decide +kernel
theorem dX10_decree_21 : decode cX10_decree 21 = .ok (.aload_n 0, 1) := by decide +kernel
theorem dX10_decree_22 : decode cX10_decree 22 = .ok (.getfield 7, 3) := by decide +kernel
theorem dX10_decree_25 : decode cX10_decree 25 = .ok (.iconst 5, 1) := by decide +kernel
theorem dX10_decree_26 : decode cX10_decree 26 = .ok (.iaload, 1) := by decide +kernel
theorem dX10_decree_27 : decode cX10_decree 27 = .ok (.istore_n 1, 1) := by decide +kernel
theorem dX10_decree_28 : decode cX10_decree 28 = .ok (.aload_n 0, 1) := by decide +kernel
theorem dX10_decree_29 : decode cX10_decree 29 = .ok (.getfield 7, 3) := by decide +kernel
theorem dX10_decree_32 : decode cX10_decree 32 = .ok (.iconst 5, 1) := by decide +kernel
theorem dX10_decree_33 : decode cX10_decree 33 = .ok (.iconst 0, 1) := by decide +kernel
theorem dX10_decree_34 : decode cX10_decree 34 = .ok (.iastore, 1) := by decide +kernel
theorem dX10_decree_35 : decode cX10_decree 35 = .ok (.iconst 0, 1) := by decide +kernel
theorem dX10_decree_36 : decode cX10_decree 36 = .ok (.istore_n 2, 1) := by decide +kernel
theorem dX10_decree_37 : decode cX10_decree 37 = .ok (.iconst 1, 1) := by decide +kernel
theorem dX10_decree_38 : decode cX10_decree 38 = .ok (.istore_n 3, 1) := by decide +kernel
theorem dX10_decree_39 : decode cX10_decree 39 = .ok (.iload_n 2, 1) := by decide +kernel
theorem dX10_decree_40 : decode cX10_decree 40 = .ok (.iload_n 1, 1) := by decide +kernel
theorem dX10_decree_41 : decode cX10_decree 41 = .ok (.if_icmp .ge 75, 3) := by decide +kernel
theorem dX10_decree_44 : decode cX10_decree 44 = .ok (.iload_n 3, 1) := by decide +kernel
theorem dX10_decree_45 : decode cX10_decree 45 = .ok (.ifCond .eq 71, 3) := by decide +kernel
theorem dX10_decree_48 : decode cX10_decree 48 = .ok (.aload_n 0, 1) := by decide +kernel
theorem dX10_decree_49 : decode cX10_decree 49 = .ok (.getfield 7, 3) := by decide +kernel
theorem dX10_decree_52 : decode cX10_decree 52 = .ok (.sipush 542, 3) := by decide +kernel
theorem dX10_decree_55 : decode cX10_decree 55 = .ok (.iload_n 2, 1) := by decide +kernel
theorem dX10_decree_56 : decode cX10_decree 56 = .ok (.iadd, 1) := by decide +kernel
theorem dX10_decree_57 : decode cX10_decree 57 = .ok (.iaload, 1) := by decide +kernel
theorem dX10_decree_58 : decode cX10_decree 58 = .ok (.invokestatic 176, 3) := by decide +kernel
theorem dX10_decree_61 : decode cX10_decree 61 = .ok (.istore 4, 2) := by decide +kernel
theorem dX10_decree_63 : decode cX10_decree 63 = .ok (.aload_n 0, 1) := by decide +kernel
theorem dX10_decree_64 : decode cX10_decree 64 = .ok (.getfield 31, 3) := by decide +kernel
theorem dX10_decree_67 : decode cX10_decree 67 = .ok (.iload 4, 2) := by decide +kernel
theorem dX10_decree_69 : decode cX10_decree 69 = .ok (.dup2, 1) := by decide +kernel
theorem dX10_decree_70 : decode cX10_decree 70 = .ok (.iaload, 1) := by decide +kernel
theorem dX10_decree_71 : decode cX10_decree 71 = .ok (.iconst 1, 1) := by decide +kernel
theorem dX10_decree_72 : decode cX10_decree 72 = .ok (.iadd, 1) := by decide +kernel
theorem dX10_decree_73 : decode cX10_decree 73 = .ok (.iastore, 1) := by decide +kernel
theorem dX10_decree_74 : decode cX10_decree 74 = .ok (.iload 4, 2) := by decide +kernel
theorem dX10_decree_76 : decode cX10_decree 76 = .ok (.ifCond .le 23, 3) := by decide +kernel
theorem dX10_decree_79 : decode cX10_decree 79 = .ok (.aload_n 0, 1) := by decide +kernel
theorem dX10_decree_80 : decode cX10_decree 80 = .ok (.getfield 31, 3) := by decide +kernel
theorem dX10_decree_83 : decode cX10_decree 83 = .ok (.iload 4, 2) := by decide +kernel
theorem dX10_decree_85 : decode cX10_decree 85 = .ok (.iaload, 1) := by decide +kernel
theorem dX10_decree_86 : decode cX10_decree 86 = .ok (.aload_n 0, 1) := by decide +kernel
theorem dX10_decree_87 : decode cX10_decree 87 = .ok (.iload 4, 2) := by decide +kernel
theorem dX10_decree_89 : decode cX10_decree 89 = .ok (.invokevirtual 179, 3) := by decide +kernel
theorem dX10_decree_92 : decode cX10_decree 92 = .ok (.if_icmp .gt 7, 3) := by decide +kernel
theorem dX10_decree_95 : decode cX10_decree 95 = .ok (.iconst 1, 1) := by decide +kernel
theorem dX10_decree_96 : decode cX10_decree 96 = .ok (.goto 4, 3) := by decide +kernel
theorem dX10_decree_99 : decode cX10_decree 99 = .ok (.iconst 0, 1) := by decide +kernel
theorem dX10_decree_100 : decode cX10_decree 100 = .ok (.istore_n 3, 1) := by decide +kernel
theorem dX10_decree_101 : decode cX10_decree 101 = .ok (.iload_n 2, 1) := by decide +kernel
theorem dX10_decree_102 : decode cX10_decree 102 = .ok (.iload_n 3, 1) := by decide +kernel
theorem dX10_decree_103 : decode cX10_decree 103 = .ok (.ifCond .eq 7, 3) := by decide +kernel
theorem dX10_decree_106 : decode cX10_decree 106 = .ok (.iconst 1, 1) := by decide +kernel
theorem dX10_decree_107 : decode cX10_decree 107 = .ok (.goto 4, 3) := by decide +kernel
theorem dX10_decree_110 : decode cX10_decree 110 = .ok (.iconst 0, 1) := by decide +kernel
theorem dX10_decree_111 : decode cX10_decree 111 = .ok (.iadd, 1) := by decide +kernel
theorem dX10_decree_112 : decode cX10_decree 112 = .ok (.istore_n 2, 1) := by decide +kernel
theorem dX10_decree_113 : decode cX10_decree 113 = .ok (.goto (-74), 3) := by decide +kernel
theorem dX10_decree_116 : decode cX10_decree 116 = .ok (.iload_n 2, 1) := by decide +kernel
theorem dX10_decree_117 : decode cX10_decree 117 = .ok (.ireturn, 1) := by decide +kernel
def fX10_decree_B116 (v2 : Int32) (M : Mm) : Option (Int32 × Mm) :=
  some (v2, M)
theorem tX10_decree_B116 (l : Launch) (G : Gx) (v2 : Int32) (M : Mm) : Sim cQi l layM G 4 cX10_decree RX10 5 (some .int) 116 [(2, .int v2)] [] M (fX10_decree_B116 v2 M) := by
  unfold fX10_decree_B116
  refine s_iload_n 0 dX10_decree_116 rfl rfl ?_
  exact s_iret rfl dX10_decree_117
def fX10_decree_B111 (q39 : Int32 → Int32 → Mm → Option (Int32 × Mm)) (v3 : Int32) (v1 : Int32) (w0 : Int32) (w1 : Int32) (M : Mm) : Option (Int32 × Mm) :=
  lt (w1 + w0) fun x8 =>
  q39 v3 x8 M
theorem tX10_decree_B111 (l : Launch) (G : Gx) (v3 : Int32) (v1 : Int32) (w0 : Int32) (w1 : Int32) (q39 : Int32 → Int32 → Mm → Option (Int32 × Mm)) (hq39 : ∀ (v3 : Int32) (v2 : Int32) (M : Mm), Sim cQi l layM G 4 cX10_decree RX10 5 (some .int) 39 [(3, .int v3), (2, .int v2), (1, .int v1), (0, rf G 0)] [] M (q39 v3 v2 M)) (M : Mm) : Sim cQi l layM G 4 cX10_decree RX10 5 (some .int) 111 [(3, .int v3), (1, .int v1), (0, rf G 0)] [.int w0, .int w1] M (fX10_decree_B111 q39 v3 v1 w0 w1 M) := by
  unfold fX10_decree_B111
  refine s_iadd dX10_decree_111 ?_
  refine s_leti fun x8 => ?_
  refine s_istore_n (lv' := [(2, .int x8), (3, .int v3), (1, .int v1), (0, rf G 0)]) dX10_decree_112 rfl rfl rfl ?_
  refine s_goto (tgt := 39) dX10_decree_113 (by decide) ?_
  exact s_sub [1, 0, 2, 3] rfl (hq39 v3 x8 M)
def fX10_decree_B100 (q39 : Int32 → Int32 → Mm → Option (Int32 × Mm)) (v2 : Int32) (v1 : Int32) (w0 : Int32) (M : Mm) : Option (Int32 × Mm) :=
  if w0 = 0 then (fX10_decree_B111 q39 w0 v1 (0 : Int32) v2 M)
  else fX10_decree_B111 q39 w0 v1 (1 : Int32) v2 M
theorem tX10_decree_B100 (l : Launch) (G : Gx) (v2 : Int32) (v1 : Int32) (w0 : Int32) (q39 : Int32 → Int32 → Mm → Option (Int32 × Mm)) (hq39 : ∀ (v3 : Int32) (v2 : Int32) (M : Mm), Sim cQi l layM G 4 cX10_decree RX10 5 (some .int) 39 [(3, .int v3), (2, .int v2), (1, .int v1), (0, rf G 0)] [] M (q39 v3 v2 M)) (M : Mm) : Sim cQi l layM G 4 cX10_decree RX10 5 (some .int) 100 [(2, .int v2), (1, .int v1), (0, rf G 0)] [.int w0] M (fX10_decree_B100 q39 v2 v1 w0 M) := by
  unfold fX10_decree_B100
  refine s_istore_n (lv' := [(3, .int w0), (2, .int v2), (1, .int v1), (0, rf G 0)]) dX10_decree_100 rfl rfl rfl ?_
  refine s_iload_n 1 dX10_decree_101 rfl rfl ?_
  refine s_iload_n 0 dX10_decree_102 rfl rfl ?_
  refine s_ifeq (tgt := 110) dX10_decree_103 (by decide) ?_ ?_
  · refine s_iconst (v := 0) dX10_decree_110 ci_0 ?_
    exact s_sub [0, 2, 3] rfl (tX10_decree_B111 l G w0 v1 (0 : Int32) v2 q39 hq39 M)
  · refine s_iconst (v := 1) dX10_decree_106 ci_1 ?_
    refine s_goto (tgt := 111) dX10_decree_107 (by decide) ?_
    exact s_sub [0, 2, 3] rfl (tX10_decree_B111 l G w0 v1 (1 : Int32) v2 q39 hq39 M)
def fX10_decree_B99 (q39 : Int32 → Int32 → Mm → Option (Int32 × Mm)) (v2 : Int32) (v1 : Int32) (M : Mm) : Option (Int32 × Mm) :=
  fX10_decree_B100 q39 v2 v1 (0 : Int32) M
theorem tX10_decree_B99 (l : Launch) (G : Gx) (v2 : Int32) (v1 : Int32) (q39 : Int32 → Int32 → Mm → Option (Int32 × Mm)) (hq39 : ∀ (v3 : Int32) (v2 : Int32) (M : Mm), Sim cQi l layM G 4 cX10_decree RX10 5 (some .int) 39 [(3, .int v3), (2, .int v2), (1, .int v1), (0, rf G 0)] [] M (q39 v3 v2 M)) (M : Mm) : Sim cQi l layM G 4 cX10_decree RX10 5 (some .int) 99 [(2, .int v2), (1, .int v1), (0, rf G 0)] [] M (fX10_decree_B99 q39 v2 v1 M) := by
  unfold fX10_decree_B99
  refine s_iconst (v := 0) dX10_decree_99 ci_0 ?_
  exact s_sub [0, 1, 2] rfl (tX10_decree_B100 l G v2 v1 (0 : Int32) q39 hq39 M)
def fX10_decree_L39b (v1 : Int32) (q39 : Int32 → Int32 → Mm → Option (Int32 × Mm)) (v3 : Int32) (v2 : Int32) (M : Mm) : Option (Int32 × Mm) :=
  if v1 ≤ v2 then (fX10_decree_B116 v2 M)
  else if v3 = 0 then (fX10_decree_B116 v2 M)
  else gd (inb ((542 : Int32) + v2) 626) <|
  bd (fX10_glyphOf (M 1 (ix ((542 : Int32) + v2))) M) fun r4 M5 =>
  gd (inb r4 27) <|
  lt (wr M5 8 (ix r4) ((M5 8 (ix r4)) + (1 : Int32))) fun M7 =>
  if r4 ≤ 0 then (fX10_decree_B99 q39 v2 v1 M7)
  else bd (fX10_caseOf r4 M7) fun r9 M10 =>
  if r9 < (M7 8 (ix r4)) then (fX10_decree_B99 q39 v2 v1 M10)
  else fX10_decree_B100 q39 v2 v1 (1 : Int32) M10
def fX10_decree_L39 (v1 : Int32) : Nat → Int32 → Int32 → Mm → Option (Int32 × Mm)
  | 0 => fun _ _ _ => none
  | n + 1 => fX10_decree_L39b v1 (fX10_decree_L39 v1 n)
theorem tX10_decree_L39b (l : Launch) (G : Gx) (v1 : Int32) (q39 : Int32 → Int32 → Mm → Option (Int32 × Mm)) (hq39 : ∀ (v3 : Int32) (v2 : Int32) (M : Mm), Sim cQi l layM G 4 cX10_decree RX10 5 (some .int) 39 [(3, .int v3), (2, .int v2), (1, .int v1), (0, rf G 0)] [] M (q39 v3 v2 M)) (v3 : Int32) (v2 : Int32) (M : Mm) : Sim cQi l layM G 4 cX10_decree RX10 5 (some .int) 39 [(3, .int v3), (2, .int v2), (1, .int v1), (0, rf G 0)] [] M (fX10_decree_L39b v1 q39 v3 v2 M) := by
  unfold fX10_decree_L39b
  refine s_iload_n 1 dX10_decree_39 rfl rfl ?_
  refine s_iload_n 2 dX10_decree_40 rfl rfl ?_
  refine s_icmpge (tgt := 116) dX10_decree_41 (by decide) ?_ ?_
  · exact s_sub [1] rfl (tX10_decree_B116 l G v2 M)
  · refine s_iload_n 0 dX10_decree_44 rfl rfl ?_
    refine s_ifeq (tgt := 116) dX10_decree_45 (by decide) ?_ ?_
    · exact s_sub [1] rfl (tX10_decree_B116 l G v2 M)
    · refine s_aload_n 3 dX10_decree_48 rfl rfl ?_
      refine g_X10_7 (q := 1) rfl rfl dX10_decree_49 ?_
      refine s_sipush (v := 542) dX10_decree_52 cs_542 ?_
      refine s_iload_n 1 dX10_decree_55 rfl rfl ?_
      refine s_iadd dX10_decree_56 ?_
      refine s_gd fun h3 => ?_
      refine s_iald (n := 626) rfl h3 dX10_decree_57 ?_
      refine s_call_i (s_runS (rest := []) (mX10_glyphOf l G (M 1 (ix ((542 : Int32) + v2))) M) ok_X10_glyphOf k_X10_176 rfl rfl rfl rfl dX10_decree_58) fun r4 M5 => ?_
      refine s_istore (lv' := [(4, .int r4), (3, .int v3), (2, .int v2), (1, .int v1), (0, rf G 0)]) dX10_decree_61 rfl rfl ?_
      refine s_aload_n 4 dX10_decree_63 rfl rfl ?_
      refine g_X10_31 (q := 8) rfl rfl dX10_decree_64 ?_
      refine s_iload 0 dX10_decree_67 rfl ?_
      refine s_dup2 dX10_decree_69 rfl rfl ?_
      refine s_gd fun h6 => ?_
      refine s_iald (n := 27) rfl h6 dX10_decree_70 ?_
      refine s_iconst (v := 1) dX10_decree_71 ci_1 ?_
      refine s_iadd dX10_decree_72 ?_
      refine s_iast (n := 27) rfl h6 dX10_decree_73 ?_
      refine s_letM fun M7 => ?_
      refine s_iload 0 dX10_decree_74 rfl ?_
      refine s_ifle (tgt := 99) dX10_decree_76 (by decide) ?_ ?_
      · exact s_sub [2, 3, 4] rfl (tX10_decree_B99 l G v2 v1 q39 hq39 M7)
      · refine s_aload_n 4 dX10_decree_79 rfl rfl ?_
        refine g_X10_31 (q := 8) rfl rfl dX10_decree_80 ?_
        refine s_iload 0 dX10_decree_83 rfl ?_
        refine s_iald (n := 27) rfl h6 dX10_decree_85 ?_
        refine s_aload_n 4 dX10_decree_86 rfl rfl ?_
        refine s_iload 0 dX10_decree_87 rfl ?_
        refine s_call_i (s_runV (ci := 10) (rest := [.int (M7 8 (ix r4))]) rfl rfl (mX10_caseOf l G r4 M7) ok_X10_caseOf k_X10_179 rfl rfl rfl rfl dX10_decree_89) fun r9 M10 => ?_
        refine s_icmpgt (tgt := 99) dX10_decree_92 (by decide) ?_ ?_
        · exact s_sub [2, 3, 4] rfl (tX10_decree_B99 l G v2 v1 q39 hq39 M10)
        · refine s_iconst (v := 1) dX10_decree_95 ci_1 ?_
          refine s_goto (tgt := 100) dX10_decree_96 (by decide) ?_
          exact s_sub [2, 3, 4] rfl (tX10_decree_B100 l G v2 v1 (1 : Int32) q39 hq39 M10)
theorem tX10_decree_L39 (l : Launch) (G : Gx) (v1 : Int32) : ∀ (n : Nat) (v3 : Int32) (v2 : Int32) (M : Mm), Sim cQi l layM G 4 cX10_decree RX10 5 (some .int) 39 [(3, .int v3), (2, .int v2), (1, .int v1), (0, rf G 0)] [] M (fX10_decree_L39 v1 n v3 v2 M)
  | 0, _, _, _ => s_none
  | n + 1, v3, v2, M => tX10_decree_L39b l G v1 _ (tX10_decree_L39 l G v1 n) v3 v2 M
def fX10_decree_B21 (M : Mm) : Option (Int32 × Mm) :=
  lt (M 1 (ix (5 : Int32))) fun x1 =>
  lt (wr M 1 (ix (5 : Int32)) (0 : Int32)) fun M2 =>
  fX10_decree_L39 x1 FU (1 : Int32) (0 : Int32) M2
theorem tX10_decree_B21 (l : Launch) (G : Gx) (M : Mm) : Sim cQi l layM G 4 cX10_decree RX10 5 (some .int) 21 [(0, rf G 0)] [] M (fX10_decree_B21 M) := by
  unfold fX10_decree_B21
  refine s_aload_n 0 dX10_decree_21 rfl rfl ?_
  refine g_X10_7 (q := 1) rfl rfl dX10_decree_22 ?_
  refine s_iconst (v := 5) dX10_decree_25 ci_5 ?_
  refine s_iald (n := 626) rfl (by decide) dX10_decree_26 ?_
  refine s_leti fun x1 => ?_
  refine s_istore_n (lv' := [(1, .int x1), (0, rf G 0)]) dX10_decree_27 rfl rfl rfl ?_
  refine s_aload_n 1 dX10_decree_28 rfl rfl ?_
  refine g_X10_7 (q := 1) rfl rfl dX10_decree_29 ?_
  refine s_iconst (v := 5) dX10_decree_32 ci_5 ?_
  refine s_iconst (v := 0) dX10_decree_33 ci_0 ?_
  refine s_iast (n := 626) rfl (by decide) dX10_decree_34 ?_
  refine s_letM fun M2 => ?_
  refine s_iconst (v := 0) dX10_decree_35 ci_0 ?_
  refine s_istore_n (lv' := [(2, .int (0 : Int32)), (1, .int x1), (0, rf G 0)]) dX10_decree_36 rfl rfl rfl ?_
  refine s_iconst (v := 1) dX10_decree_37 ci_1 ?_
  refine s_istore_n (lv' := [(3, .int (1 : Int32)), (2, .int (0 : Int32)), (1, .int x1), (0, rf G 0)]) dX10_decree_38 rfl rfl rfl ?_
  exact s_sub [0, 1, 2, 3] rfl (tX10_decree_L39 l G x1 FU (1 : Int32) (0 : Int32) M2)
def fX10_decree_L2b (q2 : Int32 → Mm → Option (Int32 × Mm)) (v1 : Int32) (M : Mm) : Option (Int32 × Mm) :=
  if (27 : Int32) ≤ v1 then (fX10_decree_B21 M)
  else gd (inb v1 27) <|
  lt (wr M 8 (ix v1) (0 : Int32)) fun M12 =>
  q2 (v1 + 1) M12
def fX10_decree_L2  : Nat → Int32 → Mm → Option (Int32 × Mm)
  | 0 => fun _ _ => none
  | n + 1 => fX10_decree_L2b  (fX10_decree_L2  n)
theorem tX10_decree_L2b (l : Launch) (G : Gx) (q2 : Int32 → Mm → Option (Int32 × Mm)) (hq2 : ∀ (v1 : Int32) (M : Mm), Sim cQi l layM G 4 cX10_decree RX10 5 (some .int) 2 [(1, .int v1), (0, rf G 0)] [] M (q2 v1 M)) (v1 : Int32) (M : Mm) : Sim cQi l layM G 4 cX10_decree RX10 5 (some .int) 2 [(1, .int v1), (0, rf G 0)] [] M (fX10_decree_L2b q2 v1 M) := by
  unfold fX10_decree_L2b
  refine s_iload_n 0 dX10_decree_2 rfl rfl ?_
  refine s_bipush (v := 27) dX10_decree_3 cb_27 ?_
  refine s_icmpge (tgt := 21) dX10_decree_5 (by decide) ?_ ?_
  · exact s_sub [1] rfl (tX10_decree_B21 l G M)
  · refine s_aload_n 1 dX10_decree_8 rfl rfl ?_
    refine g_X10_31 (q := 8) rfl rfl dX10_decree_9 ?_
    refine s_iload_n 0 dX10_decree_12 rfl rfl ?_
    refine s_iconst (v := 0) dX10_decree_13 ci_0 ?_
    refine s_gd fun h11 => ?_
    refine s_iast (n := 27) rfl h11 dX10_decree_14 ?_
    refine s_letM fun M12 => ?_
    refine s_iinc (k := 0) (lv' := [(1, .int (v1 + 1)), (0, rf G 0)]) dX10_decree_15 rfl ci_1 rfl rfl ?_
    refine s_goto (tgt := 2) dX10_decree_18 (by decide) ?_
    exact s_sub [0, 1] rfl (hq2 (v1 + 1) M12)
theorem tX10_decree_L2 (l : Launch) (G : Gx) : ∀ (n : Nat) (v1 : Int32) (M : Mm), Sim cQi l layM G 4 cX10_decree RX10 5 (some .int) 2 [(1, .int v1), (0, rf G 0)] [] M (fX10_decree_L2 n v1 M)
  | 0, _, _ => s_none
  | n + 1, v1, M => tX10_decree_L2b l G _ (tX10_decree_L2 l G n) v1 M
def fX10_decree  (M : Mm) : Option (Int32 × Mm) :=
  fX10_decree_L2 FU (0 : Int32) M
theorem mX10_decree (l : Launch) (G : Gx)  (M : Mm) : Mt cQi l layM G 4 yX10_decree cX10_decree 5 (some .int) [rf G 0] M (fX10_decree M) := by
  refine Mt.of2 (own := RX10) (lv := [(0, rf G 0)]) rfl (by decide +kernel) rfl rfl ?_
  unfold fX10_decree
  refine s_iconst (v := 0) dX10_decree_0 ci_0 ?_
  refine s_istore_n (lv' := [(1, .int (0 : Int32)), (0, rf G 0)]) dX10_decree_1 rfl rfl rfl ?_
  exact s_sub [0, 1] rfl (tX10_decree_L2 l G FU (0 : Int32) M)
theorem dX10_lay_0 : decode cX10_lay 0 = .ok (.iload_n 1, 1) := by decide +kernel
theorem dX10_lay_1 : decode cX10_lay 1 = .ok (.invokestatic 182, 3) := by decide +kernel
theorem dX10_lay_4 : decode cX10_lay 4 = .ok (.ifCond .eq 11, 3) := by decide +kernel
theorem dX10_lay_7 : decode cX10_lay 7 = .ok (.aload_n 0, 1) := by decide +kernel
theorem dX10_lay_8 : decode cX10_lay 8 = .ok (.iload_n 2, 1) := by decide +kernel
theorem dX10_lay_9 : decode cX10_lay 9 = .ok (.invokevirtual 162, 3) := by decide +kernel
theorem dX10_lay_12 : decode cX10_lay 12 = .ok (.ifCond .ne 9, 3) := by decide +kernel
theorem dX10_lay_15 : decode cX10_lay 15 = .ok (.aload_n 0, 1) := by decide +kernel
theorem dX10_lay_16 : decode cX10_lay 16 = .ok (.iconst 1, 1) := by decide +kernel
theorem dX10_lay_17 : decode cX10_lay 17 = .ok (.invokevirtual 75, 3) := by decide +kernel
theorem dX10_lay_20 : decode cX10_lay 20 = .ok (.ireturn, 1) := by decide +kernel
theorem dX10_lay_21 : decode cX10_lay 21 = .ok (.aload_n 0, 1) := by decide +kernel
theorem dX10_lay_22 : decode cX10_lay 22 = .ok (.iload_n 2, 1) := by decide +kernel
theorem dX10_lay_23 : decode cX10_lay 23 = .ok (.iconst 5, 1) := by decide +kernel
theorem dX10_lay_24 : decode cX10_lay 24 = .ok (.invokevirtual 137, 3) := by decide +kernel
theorem dX10_lay_27 : decode cX10_lay 27 = .ok (.iconst (-1), 1) := by decide +kernel
theorem dX10_lay_28 : decode cX10_lay 28 = .ok (.if_icmp .eq 9, 3) := by decide +kernel
theorem dX10_lay_31 : decode cX10_lay 31 = .ok (.aload_n 0, 1) := by decide +kernel
theorem dX10_lay_32 : decode cX10_lay 32 = .ok (.iconst 3, 1) := by decide +kernel
theorem dX10_lay_33 : decode cX10_lay 33 = .ok (.invokevirtual 75, 3) := by decide +kernel
theorem dX10_lay_36 : decode cX10_lay 36 = .ok (.ireturn, 1) := by decide +kernel
theorem dX10_lay_37 : decode cX10_lay 37 = .ok (.aload_n 0, 1) := by decide +kernel
theorem dX10_lay_38 : decode cX10_lay 38 = .ok (.iload_n 1, 1) := by decide +kernel
theorem dX10_lay_39 : decode cX10_lay 39 = .ok (.iconst 0, 1) := by decide +kernel
theorem dX10_lay_40 : decode cX10_lay 40 = .ok (.invokevirtual 153, 3) := by decide +kernel
theorem dX10_lay_43 : decode cX10_lay 43 = .ok (.istore_n 3, 1) := by decide +kernel
theorem dX10_lay_44 : decode cX10_lay 44 = .ok (.iload_n 3, 1) := by decide +kernel
theorem dX10_lay_45 : decode cX10_lay 45 = .ok (.bipush 8, 2) := by decide +kernel
theorem dX10_lay_47 : decode cX10_lay 47 = .ok (.if_icmp .ne 9, 3) := by decide +kernel
theorem dX10_lay_50 : decode cX10_lay 50 = .ok (.aload_n 0, 1) := by decide +kernel
theorem dX10_lay_51 : decode cX10_lay 51 = .ok (.iconst 4, 1) := by decide +kernel
theorem dX10_lay_52 : decode cX10_lay 52 = .ok (.invokevirtual 75, 3) := by decide +kernel
theorem dX10_lay_55 : decode cX10_lay 55 = .ok (.ireturn, 1) := by decide +kernel
theorem dX10_lay_56 : decode cX10_lay 56 = .ok (.aload_n 0, 1) := by decide +kernel
theorem dX10_lay_57 : decode cX10_lay 57 = .ok (.getfield 7, 3) := by decide +kernel
theorem dX10_lay_60 : decode cX10_lay 60 = .ok (.sipush 180, 3) := by decide +kernel
theorem dX10_lay_63 : decode cX10_lay 63 = .ok (.bipush 10, 2) := by decide +kernel
theorem dX10_lay_65 : decode cX10_lay 65 = .ok (.iload_n 1, 1) := by decide +kernel
theorem dX10_lay_66 : decode cX10_lay 66 = .ok (.imul, 1) := by decide +kernel
theorem dX10_lay_67 : decode cX10_lay 67 = .ok (.iadd, 1) := by decide +kernel
theorem dX10_lay_68 : decode cX10_lay 68 = .ok (.iconst 2, 1) := by decide +kernel
theorem dX10_lay_69 : decode cX10_lay 69 = .ok (.iadd, 1) := by decide +kernel
theorem dX10_lay_70 : decode cX10_lay 70 = .ok (.iload_n 3, 1) := by decide +kernel
theorem dX10_lay_71 : decode cX10_lay 71 = .ok (.iadd, 1) := by decide +kernel
theorem dX10_lay_72 : decode cX10_lay 72 = .ok (.iload_n 2, 1) := by decide +kernel
theorem dX10_lay_73 : decode cX10_lay 73 = .ok (.iastore, 1) := by decide +kernel
theorem dX10_lay_74 : decode cX10_lay 74 = .ok (.aload_n 0, 1) := by decide +kernel
theorem dX10_lay_75 : decode cX10_lay 75 = .ok (.getfield 7, 3) := by decide +kernel
theorem dX10_lay_78 : decode cX10_lay 78 = .ok (.sipush 180, 3) := by decide +kernel
theorem dX10_lay_81 : decode cX10_lay 81 = .ok (.bipush 10, 2) := by decide +kernel
theorem dX10_lay_83 : decode cX10_lay 83 = .ok (.iload_n 1, 1) := by decide +kernel
theorem dX10_lay_84 : decode cX10_lay 84 = .ok (.imul, 1) := by decide +kernel
theorem dX10_lay_85 : decode cX10_lay 85 = .ok (.iadd, 1) := by decide +kernel
theorem dX10_lay_86 : decode cX10_lay 86 = .ok (.iconst 0, 1) := by decide +kernel
theorem dX10_lay_87 : decode cX10_lay 87 = .ok (.iadd, 1) := by decide +kernel
theorem dX10_lay_88 : decode cX10_lay 88 = .ok (.iload_n 3, 1) := by decide +kernel
theorem dX10_lay_89 : decode cX10_lay 89 = .ok (.iconst 1, 1) := by decide +kernel
theorem dX10_lay_90 : decode cX10_lay 90 = .ok (.iadd, 1) := by decide +kernel
theorem dX10_lay_91 : decode cX10_lay 91 = .ok (.iastore, 1) := by decide +kernel
theorem dX10_lay_92 : decode cX10_lay 92 = .ok (.aload_n 0, 1) := by decide +kernel
theorem dX10_lay_93 : decode cX10_lay 93 = .ok (.iload_n 2, 1) := by decide +kernel
theorem dX10_lay_94 : decode cX10_lay 94 = .ok (.iconst 5, 1) := by decide +kernel
theorem dX10_lay_95 : decode cX10_lay 95 = .ok (.iload_n 1, 1) := by decide +kernel
theorem dX10_lay_96 : decode cX10_lay 96 = .ok (.invokevirtual 68, 3) := by decide +kernel
theorem dX10_lay_99 : decode cX10_lay 99 = .ok (.iload_n 3, 1) := by decide +kernel
theorem dX10_lay_100 : decode cX10_lay 100 = .ok (.iconst 1, 1) := by decide +kernel
theorem dX10_lay_101 : decode cX10_lay 101 = .ok (.iadd, 1) := by decide +kernel
theorem dX10_lay_102 : decode cX10_lay 102 = .ok (.ireturn, 1) := by decide +kernel
def fX10_lay_B15 (M : Mm) : Option (Int32 × Mm) :=
  bd (fX10_error (1 : Int32) M) fun r5 M6 =>
  some (r5, M6)
theorem tX10_lay_B15 (l : Launch) (G : Gx) (M : Mm) : Sim cQi l layM G 3 cX10_lay RX10 4 (some .int) 15 [(0, rf G 0)] [] M (fX10_lay_B15 M) := by
  unfold fX10_lay_B15
  refine s_aload_n 0 dX10_lay_15 rfl rfl ?_
  refine s_iconst (v := 1) dX10_lay_16 ci_1 ?_
  refine s_call_i (s_runV (ci := 10) (rest := []) rfl rfl (mX10_error l G (1 : Int32) M) ok_X10_error k_X10_75 rfl rfl rfl rfl dX10_lay_17) fun r5 M6 => ?_
  exact s_iret rfl dX10_lay_20
def fX10_lay (a1 : Int32) (a2 : Int32) (M : Mm) : Option (Int32 × Mm) :=
  bd (fX10_isPage a1 M) fun r1 M2 =>
  if r1 = true then (bd (fX10_isLetter a2 M2) fun r3 M4 =>
  if r3 = true then (bd (fX10_its a2 (5 : Int32) M4) fun r7 M8 =>
  if r7 = (-1 : Int32) then (bd (fX10_of a1 (0 : Int32) M8) fun r9 M10 =>
  if r9 = (8 : Int32) then (bd (fX10_error (4 : Int32) M10) fun r17 M18 =>
  some (r17, M18))
  else gd (inb ((((180 : Int32) + ((10 : Int32) * a1)) + (2 : Int32)) + r9) 626) <|
  lt (wr M10 1 (ix ((((180 : Int32) + ((10 : Int32) * a1)) + (2 : Int32)) + r9)) a2) fun M12 =>
  gd (inb (((180 : Int32) + ((10 : Int32) * a1)) + (0 : Int32)) 626) <|
  lt (wr M12 1 (ix (((180 : Int32) + ((10 : Int32) * a1)) + (0 : Int32))) (r9 + (1 : Int32))) fun M14 =>
  bd (fX10_lays1 a2 (5 : Int32) a1 M14) fun r15 M16 =>
  some (r9 + (1 : Int32), M16))
  else bd (fX10_error (3 : Int32) M8) fun r19 M20 =>
  some (r19, M20))
  else fX10_lay_B15 M4)
  else fX10_lay_B15 M2
theorem mX10_lay (l : Launch) (G : Gx) (a1 : Int32) (a2 : Int32) (M : Mm) : Mt cQi l layM G 3 yX10_lay cX10_lay 4 (some .int) [rf G 0, .int a1, .int a2] M (fX10_lay a1 a2 M) := by
  refine Mt.of2 (own := RX10) (lv := [(0, rf G 0), (1, .int a1), (2, .int a2)]) rfl (by decide +kernel) rfl rfl ?_
  unfold fX10_lay
  refine s_iload_n 1 dX10_lay_0 rfl rfl ?_
  refine s_call_z (s_runS (rest := []) (mX10_isPage l G a1 M) ok_X10_isPage k_X10_182 rfl rfl rfl rfl dX10_lay_1) fun r1 M2 => ?_
  refine s_ifeqB (tgt := 15) dX10_lay_4 (by decide) ?_ ?_
  · exact s_sub [0] rfl (tX10_lay_B15 l G M2)
  · refine s_aload_n 0 dX10_lay_7 rfl rfl ?_
    refine s_iload_n 2 dX10_lay_8 rfl rfl ?_
    refine s_call_z (s_runV (ci := 10) (rest := []) rfl rfl (mX10_isLetter l G a2 M2) ok_X10_isLetter k_X10_162 rfl rfl rfl rfl dX10_lay_9) fun r3 M4 => ?_
    refine s_ifneB (tgt := 21) dX10_lay_12 (by decide) ?_ ?_
    · refine s_aload_n 0 dX10_lay_21 rfl rfl ?_
      refine s_iload_n 2 dX10_lay_22 rfl rfl ?_
      refine s_iconst (v := 5) dX10_lay_23 ci_5 ?_
      refine s_call_i (s_runV (ci := 10) (rest := []) rfl rfl (mX10_its l G a2 (5 : Int32) M4) ok_X10_its k_X10_137 rfl rfl rfl rfl dX10_lay_24) fun r7 M8 => ?_
      refine s_iconst (v := -1) dX10_lay_27 ci_m1 ?_
      refine s_icmpeq (tgt := 37) dX10_lay_28 (by decide) ?_ ?_
      · refine s_aload_n 0 dX10_lay_37 rfl rfl ?_
        refine s_iload_n 1 dX10_lay_38 rfl rfl ?_
        refine s_iconst (v := 0) dX10_lay_39 ci_0 ?_
        refine s_call_i (s_runV (ci := 10) (rest := []) rfl rfl (mX10_of l G a1 (0 : Int32) M8) ok_X10_of k_X10_153 rfl rfl rfl rfl dX10_lay_40) fun r9 M10 => ?_
        refine s_istore_n (lv' := [(3, .int r9), (0, rf G 0), (1, .int a1), (2, .int a2)]) dX10_lay_43 rfl rfl rfl ?_
        refine s_iload_n 0 dX10_lay_44 rfl rfl ?_
        refine s_bipush (v := 8) dX10_lay_45 cb_8 ?_
        refine s_icmpne (tgt := 56) dX10_lay_47 (by decide) ?_ ?_
        · refine s_aload_n 1 dX10_lay_56 rfl rfl ?_
          refine g_X10_7 (q := 1) rfl rfl dX10_lay_57 ?_
          refine s_sipush (v := 180) dX10_lay_60 cs_180 ?_
          refine s_bipush (v := 10) dX10_lay_63 cb_10 ?_
          refine s_iload_n 2 dX10_lay_65 rfl rfl ?_
          refine s_imul dX10_lay_66 ?_
          refine s_iadd dX10_lay_67 ?_
          refine s_iconst (v := 2) dX10_lay_68 ci_2 ?_
          refine s_iadd dX10_lay_69 ?_
          refine s_iload_n 0 dX10_lay_70 rfl rfl ?_
          refine s_iadd dX10_lay_71 ?_
          refine s_iload_n 3 dX10_lay_72 rfl rfl ?_
          refine s_gd fun h11 => ?_
          refine s_iast (n := 626) rfl h11 dX10_lay_73 ?_
          refine s_letM fun M12 => ?_
          refine s_aload_n 1 dX10_lay_74 rfl rfl ?_
          refine g_X10_7 (q := 1) rfl rfl dX10_lay_75 ?_
          refine s_sipush (v := 180) dX10_lay_78 cs_180 ?_
          refine s_bipush (v := 10) dX10_lay_81 cb_10 ?_
          refine s_iload_n 2 dX10_lay_83 rfl rfl ?_
          refine s_imul dX10_lay_84 ?_
          refine s_iadd dX10_lay_85 ?_
          refine s_iconst (v := 0) dX10_lay_86 ci_0 ?_
          refine s_iadd dX10_lay_87 ?_
          refine s_iload_n 0 dX10_lay_88 rfl rfl ?_
          refine s_iconst (v := 1) dX10_lay_89 ci_1 ?_
          refine s_iadd dX10_lay_90 ?_
          refine s_gd fun h13 => ?_
          refine s_iast (n := 626) rfl h13 dX10_lay_91 ?_
          refine s_letM fun M14 => ?_
          refine s_aload_n 1 dX10_lay_92 rfl rfl ?_
          refine s_iload_n 3 dX10_lay_93 rfl rfl ?_
          refine s_iconst (v := 5) dX10_lay_94 ci_5 ?_
          refine s_iload_n 2 dX10_lay_95 rfl rfl ?_
          refine s_call_v (s_runV (ci := 10) (rest := []) rfl rfl (mX10_lays1 l G a2 (5 : Int32) a1 M14) ok_X10_lays1 k_X10_68 rfl rfl rfl rfl dX10_lay_96) fun r15 M16 => ?_
          refine s_iload_n 0 dX10_lay_99 rfl rfl ?_
          refine s_iconst (v := 1) dX10_lay_100 ci_1 ?_
          refine s_iadd dX10_lay_101 ?_
          exact s_iret rfl dX10_lay_102
        · refine s_aload_n 1 dX10_lay_50 rfl rfl ?_
          refine s_iconst (v := 4) dX10_lay_51 ci_4 ?_
          refine s_call_i (s_runV (ci := 10) (rest := []) rfl rfl (mX10_error l G (4 : Int32) M10) ok_X10_error k_X10_75 rfl rfl rfl rfl dX10_lay_52) fun r17 M18 => ?_
          exact s_iret rfl dX10_lay_55
      · refine s_aload_n 0 dX10_lay_31 rfl rfl ?_
        refine s_iconst (v := 3) dX10_lay_32 ci_3 ?_
        refine s_call_i (s_runV (ci := 10) (rest := []) rfl rfl (mX10_error l G (3 : Int32) M8) ok_X10_error k_X10_75 rfl rfl rfl rfl dX10_lay_33) fun r19 M20 => ?_
        exact s_iret rfl dX10_lay_36
    · exact s_sub [0] rfl (tX10_lay_B15 l G M4)
theorem dX10_sort_0 : decode cX10_sort 0 = .ok (.iload_n 1, 1) := by decide +kernel
theorem dX10_sort_1 : decode cX10_sort 1 = .ok (.invokestatic 182, 3) := by decide +kernel
theorem dX10_sort_4 : decode cX10_sort 4 = .ok (.ifCond .ne 9, 3) := by decide +kernel
theorem dX10_sort_7 : decode cX10_sort 7 = .ok (.aload_n 0, 1) := by decide +kernel
theorem dX10_sort_8 : decode cX10_sort 8 = .ok (.iconst 1, 1) := by decide +kernel
theorem dX10_sort_9 : decode cX10_sort 9 = .ok (.invokevirtual 75, 3) := by decide +kernel
theorem dX10_sort_12 : decode cX10_sort 12 = .ok (.ireturn, 1) := by decide +kernel
theorem dX10_sort_13 : decode cX10_sort 13 = .ok (.aload_n 0, 1) := by decide +kernel
theorem dX10_sort_14 : decode cX10_sort 14 = .ok (.iload_n 1, 1) := by decide +kernel
theorem dX10_sort_15 : decode cX10_sort 15 = .ok (.iconst 0, 1) := by decide +kernel
theorem dX10_sort_16 : decode cX10_sort 16 = .ok (.invokevirtual 153, 3) := by decide +kernel
theorem dX10_sort_19 : decode cX10_sort 19 = .ok (.istore_n 2, 1) := by decide +kernel
theorem dX10_sort_20 : decode cX10_sort 20 = .ok (.iconst 0, 1) := by decide +kernel
theorem dX10_sort_21 : decode cX10_sort 21 = .ok (.istore_n 3, 1) := by decide +kernel
theorem dX10_sort_22 : decode cX10_sort 22 = .ok (.iload_n 3, 1) := by decide +kernel
theorem dX10_sort_23 : decode cX10_sort 23 = .ok (.iload_n 2, 1) := by decide +kernel
theorem dX10_sort_24 : decode cX10_sort 24 = .ok (.if_icmp .ge 23, 3) := by decide +kernel
theorem dX10_sort_27 : decode cX10_sort 27 = .ok (.aload_n 0, 1) := by decide +kernel
theorem dX10_sort_28 : decode cX10_sort 28 = .ok (.aload_n 0, 1) := by decide +kernel
theorem dX10_sort_29 : decode cX10_sort 29 = .ok (.iload_n 1, 1) := by decide +kernel
theorem dX10_sort_30 : decode cX10_sort 30 = .ok (.iconst 2, 1) := by decide +kernel
theorem dX10_sort_31 : decode cX10_sort 31 = .ok (.iload_n 3, 1) := by decide +kernel
theorem dX10_sort_32 : decode cX10_sort 32 = .ok (.iadd, 1) := by decide +kernel
theorem dX10_sort_33 : decode cX10_sort 33 = .ok (.invokevirtual 153, 3) := by decide +kernel
theorem dX10_sort_36 : decode cX10_sort 36 = .ok (.iconst 5, 1) := by decide +kernel
theorem dX10_sort_37 : decode cX10_sort 37 = .ok (.iconst (-1), 1) := by decide +kernel
theorem dX10_sort_38 : decode cX10_sort 38 = .ok (.invokevirtual 68, 3) := by decide +kernel
theorem dX10_sort_41 : decode cX10_sort 41 = .ok (.iinc 3 1, 3) := by decide +kernel
theorem dX10_sort_44 : decode cX10_sort 44 = .ok (.goto (-22), 3) := by decide +kernel
theorem dX10_sort_47 : decode cX10_sort 47 = .ok (.aload_n 0, 1) := by decide +kernel
theorem dX10_sort_48 : decode cX10_sort 48 = .ok (.getfield 7, 3) := by decide +kernel
theorem dX10_sort_51 : decode cX10_sort 51 = .ok (.sipush 180, 3) := by decide +kernel
theorem dX10_sort_54 : decode cX10_sort 54 = .ok (.bipush 10, 2) := by decide +kernel
theorem dX10_sort_56 : decode cX10_sort 56 = .ok (.iload_n 1, 1) := by decide +kernel
theorem dX10_sort_57 : decode cX10_sort 57 = .ok (.imul, 1) := by decide +kernel
theorem dX10_sort_58 : decode cX10_sort 58 = .ok (.iadd, 1) := by decide +kernel
theorem dX10_sort_59 : decode cX10_sort 59 = .ok (.iconst 0, 1) := by decide +kernel
theorem dX10_sort_60 : decode cX10_sort 60 = .ok (.iadd, 1) := by decide +kernel
theorem dX10_sort_61 : decode cX10_sort 61 = .ok (.iconst 0, 1) := by decide +kernel
theorem dX10_sort_62 : decode cX10_sort 62 = .ok (.iastore, 1) := by decide +kernel
theorem dX10_sort_63 : decode cX10_sort 63 = .ok (.iload_n 2, 1) := by decide +kernel
theorem dX10_sort_64 : decode cX10_sort 64 = .ok (.ireturn, 1) := by decide +kernel
def fX10_sort_B47 (v2 : Int32) (v1 : Int32) (M : Mm) : Option (Int32 × Mm) :=
  gd (inb (((180 : Int32) + ((10 : Int32) * v1)) + (0 : Int32)) 626) <|
  lt (wr M 1 (ix (((180 : Int32) + ((10 : Int32) * v1)) + (0 : Int32))) (0 : Int32)) fun M8 =>
  some (v2, M8)
theorem tX10_sort_B47 (l : Launch) (G : Gx) (v2 : Int32) (v1 : Int32) (M : Mm) : Sim cQi l layM G 3 cX10_sort RX10 4 (some .int) 47 [(2, .int v2), (0, rf G 0), (1, .int v1)] [] M (fX10_sort_B47 v2 v1 M) := by
  unfold fX10_sort_B47
  refine s_aload_n 1 dX10_sort_47 rfl rfl ?_
  refine g_X10_7 (q := 1) rfl rfl dX10_sort_48 ?_
  refine s_sipush (v := 180) dX10_sort_51 cs_180 ?_
  refine s_bipush (v := 10) dX10_sort_54 cb_10 ?_
  refine s_iload_n 2 dX10_sort_56 rfl rfl ?_
  refine s_imul dX10_sort_57 ?_
  refine s_iadd dX10_sort_58 ?_
  refine s_iconst (v := 0) dX10_sort_59 ci_0 ?_
  refine s_iadd dX10_sort_60 ?_
  refine s_iconst (v := 0) dX10_sort_61 ci_0 ?_
  refine s_gd fun h7 => ?_
  refine s_iast (n := 626) rfl h7 dX10_sort_62 ?_
  refine s_letM fun M8 => ?_
  refine s_iload_n 0 dX10_sort_63 rfl rfl ?_
  exact s_iret rfl dX10_sort_64
def fX10_sort_L22b (v2 : Int32) (v1 : Int32) (q22 : Int32 → Mm → Option (Int32 × Mm)) (v3 : Int32) (M : Mm) : Option (Int32 × Mm) :=
  if v2 ≤ v3 then (fX10_sort_B47 v2 v1 M)
  else bd (fX10_of v1 ((2 : Int32) + v3) M) fun r9 M10 =>
  bd (fX10_lays1 r9 (5 : Int32) (-1 : Int32) M10) fun r11 M12 =>
  q22 (v3 + 1) M12
def fX10_sort_L22 (v2 : Int32) (v1 : Int32) : Nat → Int32 → Mm → Option (Int32 × Mm)
  | 0 => fun _ _ => none
  | n + 1 => fX10_sort_L22b v2 v1 (fX10_sort_L22 v2 v1 n)
theorem tX10_sort_L22b (l : Launch) (G : Gx) (v2 : Int32) (v1 : Int32) (q22 : Int32 → Mm → Option (Int32 × Mm)) (hq22 : ∀ (v3 : Int32) (M : Mm), Sim cQi l layM G 3 cX10_sort RX10 4 (some .int) 22 [(3, .int v3), (2, .int v2), (0, rf G 0), (1, .int v1)] [] M (q22 v3 M)) (v3 : Int32) (M : Mm) : Sim cQi l layM G 3 cX10_sort RX10 4 (some .int) 22 [(3, .int v3), (2, .int v2), (0, rf G 0), (1, .int v1)] [] M (fX10_sort_L22b v2 v1 q22 v3 M) := by
  unfold fX10_sort_L22b
  refine s_iload_n 0 dX10_sort_22 rfl rfl ?_
  refine s_iload_n 1 dX10_sort_23 rfl rfl ?_
  refine s_icmpge (tgt := 47) dX10_sort_24 (by decide) ?_ ?_
  · exact s_sub [1, 2, 3] rfl (tX10_sort_B47 l G v2 v1 M)
  · refine s_aload_n 2 dX10_sort_27 rfl rfl ?_
    refine s_aload_n 2 dX10_sort_28 rfl rfl ?_
    refine s_iload_n 3 dX10_sort_29 rfl rfl ?_
    refine s_iconst (v := 2) dX10_sort_30 ci_2 ?_
    refine s_iload_n 0 dX10_sort_31 rfl rfl ?_
    refine s_iadd dX10_sort_32 ?_
    refine s_call_i (s_runV (ci := 10) (rest := [rf G 0]) rfl rfl (mX10_of l G v1 ((2 : Int32) + v3) M) ok_X10_of k_X10_153 rfl rfl rfl rfl dX10_sort_33) fun r9 M10 => ?_
    refine s_iconst (v := 5) dX10_sort_36 ci_5 ?_
    refine s_iconst (v := -1) dX10_sort_37 ci_m1 ?_
    refine s_call_v (s_runV (ci := 10) (rest := []) rfl rfl (mX10_lays1 l G r9 (5 : Int32) (-1 : Int32) M10) ok_X10_lays1 k_X10_68 rfl rfl rfl rfl dX10_sort_38) fun r11 M12 => ?_
    refine s_iinc (k := 0) (lv' := [(3, .int (v3 + 1)), (2, .int v2), (0, rf G 0), (1, .int v1)]) dX10_sort_41 rfl ci_1 rfl rfl ?_
    refine s_goto (tgt := 22) dX10_sort_44 (by decide) ?_
    exact s_sub [0, 1, 2, 3] rfl (hq22 (v3 + 1) M12)
theorem tX10_sort_L22 (l : Launch) (G : Gx) (v2 : Int32) (v1 : Int32) : ∀ (n : Nat) (v3 : Int32) (M : Mm), Sim cQi l layM G 3 cX10_sort RX10 4 (some .int) 22 [(3, .int v3), (2, .int v2), (0, rf G 0), (1, .int v1)] [] M (fX10_sort_L22 v2 v1 n v3 M)
  | 0, _, _ => s_none
  | n + 1, v3, M => tX10_sort_L22b l G v2 v1 _ (tX10_sort_L22 l G v2 v1 n) v3 M
def fX10_sort (a1 : Int32) (M : Mm) : Option (Int32 × Mm) :=
  bd (fX10_isPage a1 M) fun r1 M2 =>
  if r1 = true then (bd (fX10_of a1 (0 : Int32) M2) fun r5 M6 =>
  fX10_sort_L22 r5 a1 FU (0 : Int32) M6)
  else bd (fX10_error (1 : Int32) M2) fun r3 M4 =>
  some (r3, M4)
theorem mX10_sort (l : Launch) (G : Gx) (a1 : Int32) (M : Mm) : Mt cQi l layM G 3 yX10_sort cX10_sort 4 (some .int) [rf G 0, .int a1] M (fX10_sort a1 M) := by
  refine Mt.of2 (own := RX10) (lv := [(0, rf G 0), (1, .int a1)]) rfl (by decide +kernel) rfl rfl ?_
  unfold fX10_sort
  refine s_iload_n 1 dX10_sort_0 rfl rfl ?_
  refine s_call_z (s_runS (rest := []) (mX10_isPage l G a1 M) ok_X10_isPage k_X10_182 rfl rfl rfl rfl dX10_sort_1) fun r1 M2 => ?_
  refine s_ifneB (tgt := 13) dX10_sort_4 (by decide) ?_ ?_
  · refine s_aload_n 0 dX10_sort_13 rfl rfl ?_
    refine s_iload_n 1 dX10_sort_14 rfl rfl ?_
    refine s_iconst (v := 0) dX10_sort_15 ci_0 ?_
    refine s_call_i (s_runV (ci := 10) (rest := []) rfl rfl (mX10_of l G a1 (0 : Int32) M2) ok_X10_of k_X10_153 rfl rfl rfl rfl dX10_sort_16) fun r5 M6 => ?_
    refine s_istore_n (lv' := [(2, .int r5), (0, rf G 0), (1, .int a1)]) dX10_sort_19 rfl rfl rfl ?_
    refine s_iconst (v := 0) dX10_sort_20 ci_0 ?_
    refine s_istore_n (lv' := [(3, .int (0 : Int32)), (2, .int r5), (0, rf G 0), (1, .int a1)]) dX10_sort_21 rfl rfl rfl ?_
    exact s_sub [0, 1, 2, 3] rfl (tX10_sort_L22 l G r5 a1 FU (0 : Int32) M6)
  · refine s_aload_n 0 dX10_sort_7 rfl rfl ?_
    refine s_iconst (v := 1) dX10_sort_8 ci_1 ?_
    refine s_call_i (s_runV (ci := 10) (rest := []) rfl rfl (mX10_error l G (1 : Int32) M2) ok_X10_error k_X10_75 rfl rfl rfl rfl dX10_sort_9) fun r3 M4 => ?_
    exact s_iret rfl dX10_sort_12
theorem dX10_seen_0 : decode cX10_seen 0 = .ok (.bipush 9, 2) := by decide +kernel
theorem dX10_seen_2 : decode cX10_seen 2 = .ok (.istore_n 2, 1) := by decide +kernel
theorem dX10_seen_3 : decode cX10_seen 3 = .ok (.iconst 0, 1) := by decide +kernel
theorem dX10_seen_4 : decode cX10_seen 4 = .ok (.istore_n 3, 1) := by decide +kernel
theorem dX10_seen_5 : decode cX10_seen 5 = .ok (.iload_n 3, 1) := by decide +kernel
theorem dX10_seen_6 : decode cX10_seen 6 = .ok (.aload_n 0, 1) := by decide +kernel
theorem dX10_seen_7 : decode cX10_seen 7 = .ok (.iload_n 1, 1) := by decide +kernel
theorem dX10_seen_8 : decode cX10_seen 8 = .ok (.iconst 0, 1) := by decide +kernel
theorem dX10_seen_9 : decode cX10_seen 9 = .ok (.invokevirtual 153, 3) := by decide +kernel
theorem dX10_seen_12 : decode cX10_seen 12 = .ok (.if_icmp .ge 36, 3) := by decide +kernel
theorem dX10_seen_15 : decode cX10_seen 15 = .ok (.aload_n 0, 1) := by decide +kernel
theorem dX10_seen_16 : decode cX10_seen 16 = .ok (.aload_n 0, 1) := by decide +kernel
theorem dX10_seen_17 : decode cX10_seen 17 = .ok (.iload_n 1, 1) := by decide +kernel
theorem dX10_seen_18 : decode cX10_seen 18 = .ok (.iconst 2, 1) := by decide +kernel
theorem dX10_seen_19 : decode cX10_seen 19 = .ok (.iload_n 3, 1) := by decide +kernel
theorem dX10_seen_20 : decode cX10_seen 20 = .ok (.iadd, 1) := by decide +kernel
theorem dX10_seen_21 : decode cX10_seen 21 = .ok (.invokevirtual 153, 3) := by decide +kernel
theorem dX10_seen_24 : decode cX10_seen 24 = .ok (.invokevirtual 159, 3) := by decide +kernel
theorem dX10_seen_27 : decode cX10_seen 27 = .ok (.istore 4, 2) := by decide +kernel
theorem dX10_seen_29 : decode cX10_seen 29 = .ok (.iload 4, 2) := by decide +kernel
theorem dX10_seen_31 : decode cX10_seen 31 = .ok (.iload_n 2, 1) := by decide +kernel
theorem dX10_seen_32 : decode cX10_seen 32 = .ok (.if_icmp .ge 8, 3) := by decide +kernel
theorem dX10_seen_35 : decode cX10_seen 35 = .ok (.iload 4, 2) := by decide +kernel
theorem dX10_seen_37 : decode cX10_seen 37 = .ok (.goto 4, 3) := by decide +kernel
theorem dX10_seen_40 : decode cX10_seen 40 = .ok (.iload_n 2, 1) := by decide +kernel
theorem dX10_seen_41 : decode cX10_seen 41 = .ok (.istore_n 2, 1) := by decide +kernel
theorem dX10_seen_42 : decode cX10_seen 42 = .ok (.iinc 3 1, 3) := by decide +kernel
theorem dX10_seen_45 : decode cX10_seen 45 = .ok (.goto (-40), 3) := by decide +kernel
theorem dX10_seen_48 : decode cX10_seen 48 = .ok (.iload_n 2, 1) := by decide +kernel
theorem dX10_seen_49 : decode cX10_seen 49 = .ok (.ireturn, 1) := by decide +kernel
def fX10_seen_B48 (v2 : Int32) (M : Mm) : Option (Int32 × Mm) :=
  some (v2, M)
theorem tX10_seen_B48 (l : Launch) (G : Gx) (v2 : Int32) (M : Mm) : Sim cQi l layM G 4 cX10_seen RX10 5 (some .int) 48 [(2, .int v2)] [] M (fX10_seen_B48 v2 M) := by
  unfold fX10_seen_B48
  refine s_iload_n 0 dX10_seen_48 rfl rfl ?_
  exact s_iret rfl dX10_seen_49
def fX10_seen_B41 (q5 : Int32 → Int32 → Mm → Option (Int32 × Mm)) (v3 : Int32) (v1 : Int32) (w0 : Int32) (M : Mm) : Option (Int32 × Mm) :=
  q5 (v3 + 1) w0 M
theorem tX10_seen_B41 (l : Launch) (G : Gx) (v3 : Int32) (v1 : Int32) (w0 : Int32) (q5 : Int32 → Int32 → Mm → Option (Int32 × Mm)) (hq5 : ∀ (v3 : Int32) (v2 : Int32) (M : Mm), Sim cQi l layM G 4 cX10_seen RX10 5 (some .int) 5 [(3, .int v3), (2, .int v2), (0, rf G 0), (1, .int v1)] [] M (q5 v3 v2 M)) (M : Mm) : Sim cQi l layM G 4 cX10_seen RX10 5 (some .int) 41 [(3, .int v3), (0, rf G 0), (1, .int v1)] [.int w0] M (fX10_seen_B41 q5 v3 v1 w0 M) := by
  unfold fX10_seen_B41
  refine s_istore_n (lv' := [(2, .int w0), (3, .int v3), (0, rf G 0), (1, .int v1)]) dX10_seen_41 rfl rfl rfl ?_
  refine s_iinc (k := 1) (lv' := [(3, .int (v3 + 1)), (2, .int w0), (0, rf G 0), (1, .int v1)]) dX10_seen_42 rfl ci_1 rfl rfl ?_
  refine s_goto (tgt := 5) dX10_seen_45 (by decide) ?_
  exact s_sub [0, 1, 2, 3] rfl (hq5 (v3 + 1) w0 M)
def fX10_seen_L5b (v1 : Int32) (q5 : Int32 → Int32 → Mm → Option (Int32 × Mm)) (v3 : Int32) (v2 : Int32) (M : Mm) : Option (Int32 × Mm) :=
  bd (fX10_of v1 (0 : Int32) M) fun r1 M2 =>
  if r1 ≤ v3 then (fX10_seen_B48 v2 M2)
  else bd (fX10_of v1 ((2 : Int32) + v3) M2) fun r3 M4 =>
  bd (fX10_sees r3 M4) fun r5 M6 =>
  if v2 ≤ r5 then (fX10_seen_B41 q5 v3 v1 v2 M6)
  else fX10_seen_B41 q5 v3 v1 r5 M6
def fX10_seen_L5 (v1 : Int32) : Nat → Int32 → Int32 → Mm → Option (Int32 × Mm)
  | 0 => fun _ _ _ => none
  | n + 1 => fX10_seen_L5b v1 (fX10_seen_L5 v1 n)
theorem tX10_seen_L5b (l : Launch) (G : Gx) (v1 : Int32) (q5 : Int32 → Int32 → Mm → Option (Int32 × Mm)) (hq5 : ∀ (v3 : Int32) (v2 : Int32) (M : Mm), Sim cQi l layM G 4 cX10_seen RX10 5 (some .int) 5 [(3, .int v3), (2, .int v2), (0, rf G 0), (1, .int v1)] [] M (q5 v3 v2 M)) (v3 : Int32) (v2 : Int32) (M : Mm) : Sim cQi l layM G 4 cX10_seen RX10 5 (some .int) 5 [(3, .int v3), (2, .int v2), (0, rf G 0), (1, .int v1)] [] M (fX10_seen_L5b v1 q5 v3 v2 M) := by
  unfold fX10_seen_L5b
  refine s_iload_n 0 dX10_seen_5 rfl rfl ?_
  refine s_aload_n 2 dX10_seen_6 rfl rfl ?_
  refine s_iload_n 3 dX10_seen_7 rfl rfl ?_
  refine s_iconst (v := 0) dX10_seen_8 ci_0 ?_
  refine s_call_i (s_runV (ci := 10) (rest := [.int v3]) rfl rfl (mX10_of l G v1 (0 : Int32) M) ok_X10_of k_X10_153 rfl rfl rfl rfl dX10_seen_9) fun r1 M2 => ?_
  refine s_icmpge (tgt := 48) dX10_seen_12 (by decide) ?_ ?_
  · exact s_sub [1] rfl (tX10_seen_B48 l G v2 M2)
  · refine s_aload_n 2 dX10_seen_15 rfl rfl ?_
    refine s_aload_n 2 dX10_seen_16 rfl rfl ?_
    refine s_iload_n 3 dX10_seen_17 rfl rfl ?_
    refine s_iconst (v := 2) dX10_seen_18 ci_2 ?_
    refine s_iload_n 0 dX10_seen_19 rfl rfl ?_
    refine s_iadd dX10_seen_20 ?_
    refine s_call_i (s_runV (ci := 10) (rest := [rf G 0]) rfl rfl (mX10_of l G v1 ((2 : Int32) + v3) M2) ok_X10_of k_X10_153 rfl rfl rfl rfl dX10_seen_21) fun r3 M4 => ?_
    refine s_call_i (s_runV (ci := 10) (rest := []) rfl rfl (mX10_sees l G r3 M4) ok_X10_sees k_X10_159 rfl rfl rfl rfl dX10_seen_24) fun r5 M6 => ?_
    refine s_istore (lv' := [(4, .int r5), (3, .int v3), (2, .int v2), (0, rf G 0), (1, .int v1)]) dX10_seen_27 rfl rfl ?_
    refine s_iload 0 dX10_seen_29 rfl ?_
    refine s_iload_n 2 dX10_seen_31 rfl rfl ?_
    refine s_icmpge (tgt := 40) dX10_seen_32 (by decide) ?_ ?_
    · refine s_iload_n 2 dX10_seen_40 rfl rfl ?_
      exact s_sub [1, 3, 4] rfl (tX10_seen_B41 l G v3 v1 v2 q5 hq5 M6)
    · refine s_iload 0 dX10_seen_35 rfl ?_
      refine s_goto (tgt := 41) dX10_seen_37 (by decide) ?_
      exact s_sub [1, 3, 4] rfl (tX10_seen_B41 l G v3 v1 r5 q5 hq5 M6)
theorem tX10_seen_L5 (l : Launch) (G : Gx) (v1 : Int32) : ∀ (n : Nat) (v3 : Int32) (v2 : Int32) (M : Mm), Sim cQi l layM G 4 cX10_seen RX10 5 (some .int) 5 [(3, .int v3), (2, .int v2), (0, rf G 0), (1, .int v1)] [] M (fX10_seen_L5 v1 n v3 v2 M)
  | 0, _, _, _ => s_none
  | n + 1, v3, v2, M => tX10_seen_L5b l G v1 _ (tX10_seen_L5 l G v1 n) v3 v2 M
def fX10_seen (a1 : Int32) (M : Mm) : Option (Int32 × Mm) :=
  fX10_seen_L5 a1 FU (0 : Int32) (9 : Int32) M
theorem mX10_seen (l : Launch) (G : Gx) (a1 : Int32) (M : Mm) : Mt cQi l layM G 4 yX10_seen cX10_seen 5 (some .int) [rf G 0, .int a1] M (fX10_seen a1 M) := by
  refine Mt.of2 (own := RX10) (lv := [(0, rf G 0), (1, .int a1)]) rfl (by decide +kernel) rfl rfl ?_
  unfold fX10_seen
  refine s_bipush (v := 9) dX10_seen_0 cb_9 ?_
  refine s_istore_n (lv' := [(2, .int (9 : Int32)), (0, rf G 0), (1, .int a1)]) dX10_seen_2 rfl rfl rfl ?_
  refine s_iconst (v := 0) dX10_seen_3 ci_0 ?_
  refine s_istore_n (lv' := [(3, .int (0 : Int32)), (2, .int (9 : Int32)), (0, rf G 0), (1, .int a1)]) dX10_seen_4 rfl rfl rfl ?_
  exact s_sub [0, 1, 2, 3] rfl (tX10_seen_L5 l G a1 FU (0 : Int32) (9 : Int32) M)
theorem dX10_pageIs_0 : decode cX10_pageIs 0 = .ok (.iload_n 1, 1) := by decide +kernel
theorem dX10_pageIs_1 : decode cX10_pageIs 1 = .ok (.invokestatic 182, 3) := by decide +kernel
theorem dX10_pageIs_4 : decode cX10_pageIs 4 = .ok (.ifCond .eq 13, 3) := by decide +kernel
theorem dX10_pageIs_7 : decode cX10_pageIs 7 = .ok (.iload_n 2, 1) := by decide +kernel
theorem dX10_pageIs_8 : decode cX10_pageIs 8 = .ok (.iconst 0, 1) := by decide +kernel
theorem dX10_pageIs_9 : decode cX10_pageIs 9 = .ok (.bipush 10, 2) := by decide +kernel
theorem dX10_pageIs_11 : decode cX10_pageIs 11 = .ok (.invokestatic 59, 3) := by decide +kernel
theorem dX10_pageIs_14 : decode cX10_pageIs 14 = .ok (.ifCond .ne 9, 3) := by decide +kernel
theorem dX10_pageIs_17 : decode cX10_pageIs 17 = .ok (.aload_n 0, 1) := by decide +kernel
theorem dX10_pageIs_18 : decode cX10_pageIs 18 = .ok (.iconst 1, 1) := by decide +kernel
theorem dX10_pageIs_19 : decode cX10_pageIs 19 = .ok (.invokevirtual 75, 3) := by decide +kernel
theorem dX10_pageIs_22 : decode cX10_pageIs 22 = .ok (.ireturn, 1) := by decide +kernel
theorem dX10_pageIs_23 : decode cX10_pageIs 23 = .ok (.iload_n 2, 1) := by decide +kernel
theorem dX10_pageIs_24 : decode cX10_pageIs 24 = .ok (.iconst 2, 1) := by decide +kernel
theorem dX10_pageIs_25 : decode cX10_pageIs 25 = .ok (.if_icmp .ne 9, 3) := by decide +kernel
theorem dX10_pageIs_28 : decode cX10_pageIs 28 = .ok (.aload_n 0, 1) := by decide +kernel
theorem dX10_pageIs_29 : decode cX10_pageIs 29 = .ok (.iload_n 1, 1) := by decide +kernel
theorem dX10_pageIs_30 : decode cX10_pageIs 30 = .ok (.invokevirtual 185, 3) := by decide +kernel
theorem dX10_pageIs_33 : decode cX10_pageIs 33 = .ok (.ireturn, 1) := by decide +kernel
theorem dX10_pageIs_34 : decode cX10_pageIs 34 = .ok (.iload_n 2, 1) := by decide +kernel
theorem dX10_pageIs_35 : decode cX10_pageIs 35 = .ok (.iconst 2, 1) := by decide +kernel
theorem dX10_pageIs_36 : decode cX10_pageIs 36 = .ok (.if_icmp .ge 12, 3) := by decide +kernel
theorem dX10_pageIs_39 : decode cX10_pageIs 39 = .ok (.aload_n 0, 1) := by decide +kernel
theorem dX10_pageIs_40 : decode cX10_pageIs 40 = .ok (.iload_n 1, 1) := by decide +kernel
theorem dX10_pageIs_41 : decode cX10_pageIs 41 = .ok (.iload_n 2, 1) := by decide +kernel
theorem dX10_pageIs_42 : decode cX10_pageIs 42 = .ok (.invokevirtual 153, 3) := by decide +kernel
theorem dX10_pageIs_45 : decode cX10_pageIs 45 = .ok (.goto 29, 3) := by decide +kernel
theorem dX10_pageIs_48 : decode cX10_pageIs 48 = .ok (.iload_n 2, 1) := by decide +kernel
theorem dX10_pageIs_49 : decode cX10_pageIs 49 = .ok (.iconst 3, 1) := by decide +kernel
theorem dX10_pageIs_50 : decode cX10_pageIs 50 = .ok (.isub, 1) := by decide +kernel
theorem dX10_pageIs_51 : decode cX10_pageIs 51 = .ok (.aload_n 0, 1) := by decide +kernel
theorem dX10_pageIs_52 : decode cX10_pageIs 52 = .ok (.iload_n 1, 1) := by decide +kernel
theorem dX10_pageIs_53 : decode cX10_pageIs 53 = .ok (.iconst 0, 1) := by decide +kernel
theorem dX10_pageIs_54 : decode cX10_pageIs 54 = .ok (.invokevirtual 153, 3) := by decide +kernel
theorem dX10_pageIs_57 : decode cX10_pageIs 57 = .ok (.if_icmp .ge 16, 3) := by decide +kernel
theorem dX10_pageIs_60 : decode cX10_pageIs 60 = .ok (.aload_n 0, 1) := by decide +kernel
theorem dX10_pageIs_61 : decode cX10_pageIs 61 = .ok (.iload_n 1, 1) := by decide +kernel
theorem dX10_pageIs_62 : decode cX10_pageIs 62 = .ok (.iconst 2, 1) := by decide +kernel
theorem dX10_pageIs_63 : decode cX10_pageIs 63 = .ok (.iload_n 2, 1) := by decide +kernel
theorem dX10_pageIs_64 : decode cX10_pageIs 64 = .ok (.iadd, 1) := by decide +kernel
theorem dX10_pageIs_65 : decode cX10_pageIs 65 = .ok (.iconst 3, 1) := by decide +kernel
theorem dX10_pageIs_66 : decode cX10_pageIs 66 = .ok (.isub, 1) := by decide +kernel
theorem dX10_pageIs_67 : decode cX10_pageIs 67 = .ok (.invokevirtual 153, 3) := by decide +kernel
theorem dX10_pageIs_70 : decode cX10_pageIs 70 = .ok (.goto 4, 3) := by decide +kernel
theorem dX10_pageIs_73 : decode cX10_pageIs 73 = .ok (.iconst (-1), 1) := by decide +kernel
theorem dX10_pageIs_74 : decode cX10_pageIs 74 = .ok (.ireturn, 1) := by decide +kernel
def fX10_pageIs_B17 (M : Mm) : Option (Int32 × Mm) :=
  bd (fX10_error (1 : Int32) M) fun r5 M6 =>
  some (r5, M6)
theorem tX10_pageIs_B17 (l : Launch) (G : Gx) (M : Mm) : Sim cQi l layM G 5 cX10_pageIs RX10 3 (some .int) 17 [(0, rf G 0)] [] M (fX10_pageIs_B17 M) := by
  unfold fX10_pageIs_B17
  refine s_aload_n 0 dX10_pageIs_17 rfl rfl ?_
  refine s_iconst (v := 1) dX10_pageIs_18 ci_1 ?_
  refine s_call_i (s_runV (ci := 10) (rest := []) rfl rfl (mX10_error l G (1 : Int32) M) ok_X10_error k_X10_75 rfl rfl rfl rfl dX10_pageIs_19) fun r5 M6 => ?_
  exact s_iret rfl dX10_pageIs_22
def fX10_pageIs_B74 (w0 : Int32) (M : Mm) : Option (Int32 × Mm) :=
  some (w0, M)
theorem tX10_pageIs_B74 (l : Launch) (G : Gx) (w0 : Int32) (M : Mm) : Sim cQi l layM G 5 cX10_pageIs RX10 3 (some .int) 74 [] [.int w0] M (fX10_pageIs_B74 w0 M) := by
  unfold fX10_pageIs_B74
  exact s_iret rfl dX10_pageIs_74
def fX10_pageIs (a1 : Int32) (a2 : Int32) (M : Mm) : Option (Int32 × Mm) :=
  bd (fX10_isPage a1 M) fun r1 M2 =>
  if r1 = true then (bd (fX10_in a2 (0 : Int32) (10 : Int32) M2) fun r3 M4 =>
  if r3 = true then (if a2 = (2 : Int32) then (bd (fX10_seen a1 M4) fun r13 M14 =>
  some (r13, M14))
  else if (2 : Int32) ≤ a2 then (bd (fX10_of a1 (0 : Int32) M4) fun r7 M8 =>
  if r7 ≤ (a2 - (3 : Int32)) then (fX10_pageIs_B74 (-1 : Int32) M8)
  else bd (fX10_of a1 (((2 : Int32) + a2) - (3 : Int32)) M8) fun r9 M10 =>
  fX10_pageIs_B74 r9 M10)
  else bd (fX10_of a1 a2 M4) fun r11 M12 =>
  fX10_pageIs_B74 r11 M12)
  else fX10_pageIs_B17 M4)
  else fX10_pageIs_B17 M2
theorem mX10_pageIs (l : Launch) (G : Gx) (a1 : Int32) (a2 : Int32) (M : Mm) : Mt cQi l layM G 5 yX10_pageIs cX10_pageIs 3 (some .int) [rf G 0, .int a1, .int a2] M (fX10_pageIs a1 a2 M) := by
  refine Mt.of2 (own := RX10) (lv := [(0, rf G 0), (1, .int a1), (2, .int a2)]) rfl (by decide +kernel) rfl rfl ?_
  unfold fX10_pageIs
  refine s_iload_n 1 dX10_pageIs_0 rfl rfl ?_
  refine s_call_z (s_runS (rest := []) (mX10_isPage l G a1 M) ok_X10_isPage k_X10_182 rfl rfl rfl rfl dX10_pageIs_1) fun r1 M2 => ?_
  refine s_ifeqB (tgt := 17) dX10_pageIs_4 (by decide) ?_ ?_
  · exact s_sub [0] rfl (tX10_pageIs_B17 l G M2)
  · refine s_iload_n 2 dX10_pageIs_7 rfl rfl ?_
    refine s_iconst (v := 0) dX10_pageIs_8 ci_0 ?_
    refine s_bipush (v := 10) dX10_pageIs_9 cb_10 ?_
    refine s_call_z (s_runS (rest := []) (mX10_in l G a2 (0 : Int32) (10 : Int32) M2) ok_X10_in k_X10_59 rfl rfl rfl rfl dX10_pageIs_11) fun r3 M4 => ?_
    refine s_ifneB (tgt := 23) dX10_pageIs_14 (by decide) ?_ ?_
    · refine s_iload_n 2 dX10_pageIs_23 rfl rfl ?_
      refine s_iconst (v := 2) dX10_pageIs_24 ci_2 ?_
      refine s_icmpne (tgt := 34) dX10_pageIs_25 (by decide) ?_ ?_
      · refine s_iload_n 2 dX10_pageIs_34 rfl rfl ?_
        refine s_iconst (v := 2) dX10_pageIs_35 ci_2 ?_
        refine s_icmpge (tgt := 48) dX10_pageIs_36 (by decide) ?_ ?_
        · refine s_iload_n 2 dX10_pageIs_48 rfl rfl ?_
          refine s_iconst (v := 3) dX10_pageIs_49 ci_3 ?_
          refine s_isub dX10_pageIs_50 ?_
          refine s_aload_n 0 dX10_pageIs_51 rfl rfl ?_
          refine s_iload_n 1 dX10_pageIs_52 rfl rfl ?_
          refine s_iconst (v := 0) dX10_pageIs_53 ci_0 ?_
          refine s_call_i (s_runV (ci := 10) (rest := [.int (a2 - (3 : Int32))]) rfl rfl (mX10_of l G a1 (0 : Int32) M4) ok_X10_of k_X10_153 rfl rfl rfl rfl dX10_pageIs_54) fun r7 M8 => ?_
          refine s_icmpge (tgt := 73) dX10_pageIs_57 (by decide) ?_ ?_
          · refine s_iconst (v := -1) dX10_pageIs_73 ci_m1 ?_
            exact s_sub [] rfl (tX10_pageIs_B74 l G (-1 : Int32) M8)
          · refine s_aload_n 0 dX10_pageIs_60 rfl rfl ?_
            refine s_iload_n 1 dX10_pageIs_61 rfl rfl ?_
            refine s_iconst (v := 2) dX10_pageIs_62 ci_2 ?_
            refine s_iload_n 2 dX10_pageIs_63 rfl rfl ?_
            refine s_iadd dX10_pageIs_64 ?_
            refine s_iconst (v := 3) dX10_pageIs_65 ci_3 ?_
            refine s_isub dX10_pageIs_66 ?_
            refine s_call_i (s_runV (ci := 10) (rest := []) rfl rfl (mX10_of l G a1 (((2 : Int32) + a2) - (3 : Int32)) M8) ok_X10_of k_X10_153 rfl rfl rfl rfl dX10_pageIs_67) fun r9 M10 => ?_
            refine s_goto (tgt := 74) dX10_pageIs_70 (by decide) ?_
            exact s_sub [] rfl (tX10_pageIs_B74 l G r9 M10)
        · refine s_aload_n 0 dX10_pageIs_39 rfl rfl ?_
          refine s_iload_n 1 dX10_pageIs_40 rfl rfl ?_
          refine s_iload_n 2 dX10_pageIs_41 rfl rfl ?_
          refine s_call_i (s_runV (ci := 10) (rest := []) rfl rfl (mX10_of l G a1 a2 M4) ok_X10_of k_X10_153 rfl rfl rfl rfl dX10_pageIs_42) fun r11 M12 => ?_
          refine s_goto (tgt := 74) dX10_pageIs_45 (by decide) ?_
          exact s_sub [] rfl (tX10_pageIs_B74 l G r11 M12)
      · refine s_aload_n 0 dX10_pageIs_28 rfl rfl ?_
        refine s_iload_n 1 dX10_pageIs_29 rfl rfl ?_
        refine s_call_i (s_runV (ci := 10) (rest := []) rfl rfl (mX10_seen l G a1 M4) ok_X10_seen k_X10_185 rfl rfl rfl rfl dX10_pageIs_30) fun r13 M14 => ?_
        exact s_iret rfl dX10_pageIs_33
    · exact s_sub [0] rfl (tX10_pageIs_B17 l G M4)
theorem dX10_meltsAll_0 : decode cX10_meltsAll 0 = .ok (.iconst 0, 1) := by decide +kernel
theorem dX10_meltsAll_1 : decode cX10_meltsAll 1 = .ok (.istore_n 3, 1) := by decide +kernel
theorem dX10_meltsAll_2 : decode cX10_meltsAll 2 = .ok (.iload_n 3, 1) := by decide +kernel
theorem dX10_meltsAll_3 : decode cX10_meltsAll 3 = .ok (.aload_n 0, 1) := by decide +kernel
theorem dX10_meltsAll_4 : decode cX10_meltsAll 4 = .ok (.iload_n 1, 1) := by decide +kernel
theorem dX10_meltsAll_5 : decode cX10_meltsAll 5 = .ok (.iconst 0, 1) := by decide +kernel
theorem dX10_meltsAll_6 : decode cX10_meltsAll 6 = .ok (.invokevirtual 153, 3) := by decide +kernel
theorem dX10_meltsAll_9 : decode cX10_meltsAll 9 = .ok (.if_icmp .ge 74, 3) := by decide +kernel
theorem dX10_meltsAll_12 : decode cX10_meltsAll 12 = .ok (.aload_n 0, 1) := by decide +kernel
theorem dX10_meltsAll_13 : decode cX10_meltsAll 13 = .ok (.iload_n 1, 1) := by decide +kernel
theorem dX10_meltsAll_14 : decode cX10_meltsAll 14 = .ok (.iconst 2, 1) := by decide +kernel
theorem dX10_meltsAll_15 : decode cX10_meltsAll 15 = .ok (.iload_n 3, 1) := by decide +kernel
theorem dX10_meltsAll_16 : decode cX10_meltsAll 16 = .ok (.iadd, 1) := by decide +kernel
theorem dX10_meltsAll_17 : decode cX10_meltsAll 17 = .ok (.invokevirtual 153, 3) := by decide +kernel
theorem dX10_meltsAll_20 : decode cX10_meltsAll 20 = .ok (.istore 4, 2) := by decide +kernel
theorem dX10_meltsAll_22 : decode cX10_meltsAll 22 = .ok (.aload_n 0, 1) := by decide +kernel
theorem dX10_meltsAll_23 : decode cX10_meltsAll 23 = .ok (.iload 4, 2) := by decide +kernel
theorem dX10_meltsAll_25 : decode cX10_meltsAll 25 = .ok (.invokevirtual 156, 3) := by decide +kernel
theorem dX10_meltsAll_28 : decode cX10_meltsAll 28 = .ok (.istore 5, 2) := by decide +kernel
theorem dX10_meltsAll_30 : decode cX10_meltsAll 30 = .ok (.aload_n 0, 1) := by decide +kernel
theorem dX10_meltsAll_31 : decode cX10_meltsAll 31 = .ok (.iload 4, 2) := by decide +kernel
theorem dX10_meltsAll_33 : decode cX10_meltsAll 33 = .ok (.iconst 3, 1) := by decide +kernel
theorem dX10_meltsAll_34 : decode cX10_meltsAll 34 = .ok (.aload_n 0, 1) := by decide +kernel
theorem dX10_meltsAll_35 : decode cX10_meltsAll 35 = .ok (.iload 4, 2) := by decide +kernel
theorem dX10_meltsAll_37 : decode cX10_meltsAll 37 = .ok (.iconst 3, 1) := by decide +kernel
theorem dX10_meltsAll_38 : decode cX10_meltsAll 38 = .ok (.invokevirtual 137, 3) := by decide +kernel
theorem dX10_meltsAll_41 : decode cX10_meltsAll 41 = .ok (.iload 5, 2) := by decide +kernel
theorem dX10_meltsAll_43 : decode cX10_meltsAll 43 = .ok (.isub, 1) := by decide +kernel
theorem dX10_meltsAll_44 : decode cX10_meltsAll 44 = .ok (.invokevirtual 68, 3) := by decide +kernel
theorem dX10_meltsAll_47 : decode cX10_meltsAll 47 = .ok (.aload_n 0, 1) := by decide +kernel
theorem dX10_meltsAll_48 : decode cX10_meltsAll 48 = .ok (.iload 5, 2) := by decide +kernel
theorem dX10_meltsAll_50 : decode cX10_meltsAll 50 = .ok (.invokevirtual 172, 3) := by decide +kernel
theorem dX10_meltsAll_53 : decode cX10_meltsAll 53 = .ok (.aload_n 0, 1) := by decide +kernel
theorem dX10_meltsAll_54 : decode cX10_meltsAll 54 = .ok (.iload 4, 2) := by decide +kernel
theorem dX10_meltsAll_56 : decode cX10_meltsAll 56 = .ok (.bipush 6, 2) := by decide +kernel
theorem dX10_meltsAll_58 : decode cX10_meltsAll 58 = .ok (.aload_n 0, 1) := by decide +kernel
theorem dX10_meltsAll_59 : decode cX10_meltsAll 59 = .ok (.iload 4, 2) := by decide +kernel
theorem dX10_meltsAll_61 : decode cX10_meltsAll 61 = .ok (.bipush 6, 2) := by decide +kernel
theorem dX10_meltsAll_63 : decode cX10_meltsAll 63 = .ok (.invokevirtual 137, 3) := by decide +kernel
theorem dX10_meltsAll_66 : decode cX10_meltsAll 66 = .ok (.iload_n 2, 1) := by decide +kernel
theorem dX10_meltsAll_67 : decode cX10_meltsAll 67 = .ok (.iadd, 1) := by decide +kernel
theorem dX10_meltsAll_68 : decode cX10_meltsAll 68 = .ok (.iconst 0, 1) := by decide +kernel
theorem dX10_meltsAll_69 : decode cX10_meltsAll 69 = .ok (.bipush 99, 2) := by decide +kernel
theorem dX10_meltsAll_71 : decode cX10_meltsAll 71 = .ok (.invokestatic 64, 3) := by decide +kernel
theorem dX10_meltsAll_74 : decode cX10_meltsAll 74 = .ok (.invokevirtual 68, 3) := by decide +kernel
theorem dX10_meltsAll_77 : decode cX10_meltsAll 77 = .ok (.iinc 3 1, 3) := by decide +kernel
theorem dX10_meltsAll_80 : decode cX10_meltsAll 80 = .ok (.goto (-78), 3) := by decide +kernel
theorem dX10_meltsAll_83 : decode cX10_meltsAll 83 = .ok (.return_, 1) := by decide +kernel
def fX10_meltsAll_B83 (M : Mm) : Option (Unit × Mm) :=
  some ((), M)
theorem tX10_meltsAll_B83 (l : Launch) (G : Gx) (M : Mm) : Sim cQv l layM G 5 cX10_meltsAll RX10 6 none 83 [] [] M (fX10_meltsAll_B83 M) := by
  unfold fX10_meltsAll_B83
  exact s_vret rfl dX10_meltsAll_83
def fX10_meltsAll_L2b (v1 : Int32) (v2 : Int32) (q2 : Int32 → Mm → Option (Unit × Mm)) (v3 : Int32) (M : Mm) : Option (Unit × Mm) :=
  bd (fX10_of v1 (0 : Int32) M) fun r1 M2 =>
  if r1 ≤ v3 then (fX10_meltsAll_B83 M2)
  else bd (fX10_of v1 ((2 : Int32) + v3) M2) fun r3 M4 =>
  bd (fX10_melts r3 M4) fun r5 M6 =>
  bd (fX10_its r3 (3 : Int32) M6) fun r7 M8 =>
  bd (fX10_lays1 r3 (3 : Int32) (r7 - r5) M8) fun r9 M10 =>
  bd (fX10_drips r5 M10) fun r11 M12 =>
  bd (fX10_its r3 (6 : Int32) M12) fun r13 M14 =>
  bd (fX10_held (r13 + v2) (0 : Int32) (99 : Int32) M14) fun r15 M16 =>
  bd (fX10_lays1 r3 (6 : Int32) r15 M16) fun r17 M18 =>
  q2 (v3 + 1) M18
def fX10_meltsAll_L2 (v1 : Int32) (v2 : Int32) : Nat → Int32 → Mm → Option (Unit × Mm)
  | 0 => fun _ _ => none
  | n + 1 => fX10_meltsAll_L2b v1 v2 (fX10_meltsAll_L2 v1 v2 n)
theorem tX10_meltsAll_L2b (l : Launch) (G : Gx) (v1 : Int32) (v2 : Int32) (q2 : Int32 → Mm → Option (Unit × Mm)) (hq2 : ∀ (v3 : Int32) (M : Mm), Sim cQv l layM G 5 cX10_meltsAll RX10 6 none 2 [(3, .int v3), (0, rf G 0), (1, .int v1), (2, .int v2)] [] M (q2 v3 M)) (v3 : Int32) (M : Mm) : Sim cQv l layM G 5 cX10_meltsAll RX10 6 none 2 [(3, .int v3), (0, rf G 0), (1, .int v1), (2, .int v2)] [] M (fX10_meltsAll_L2b v1 v2 q2 v3 M) := by
  unfold fX10_meltsAll_L2b
  refine s_iload_n 0 dX10_meltsAll_2 rfl rfl ?_
  refine s_aload_n 1 dX10_meltsAll_3 rfl rfl ?_
  refine s_iload_n 2 dX10_meltsAll_4 rfl rfl ?_
  refine s_iconst (v := 0) dX10_meltsAll_5 ci_0 ?_
  refine s_call_i (s_runV (ci := 10) (rest := [.int v3]) rfl rfl (mX10_of l G v1 (0 : Int32) M) ok_X10_of k_X10_153 rfl rfl rfl rfl dX10_meltsAll_6) fun r1 M2 => ?_
  refine s_icmpge (tgt := 83) dX10_meltsAll_9 (by decide) ?_ ?_
  · exact s_sub [] rfl (tX10_meltsAll_B83 l G M2)
  · refine s_aload_n 1 dX10_meltsAll_12 rfl rfl ?_
    refine s_iload_n 2 dX10_meltsAll_13 rfl rfl ?_
    refine s_iconst (v := 2) dX10_meltsAll_14 ci_2 ?_
    refine s_iload_n 0 dX10_meltsAll_15 rfl rfl ?_
    refine s_iadd dX10_meltsAll_16 ?_
    refine s_call_i (s_runV (ci := 10) (rest := []) rfl rfl (mX10_of l G v1 ((2 : Int32) + v3) M2) ok_X10_of k_X10_153 rfl rfl rfl rfl dX10_meltsAll_17) fun r3 M4 => ?_
    refine s_istore (lv' := [(4, .int r3), (3, .int v3), (0, rf G 0), (1, .int v1), (2, .int v2)]) dX10_meltsAll_20 rfl rfl ?_
    refine s_aload_n 2 dX10_meltsAll_22 rfl rfl ?_
    refine s_iload 0 dX10_meltsAll_23 rfl ?_
    refine s_call_i (s_runV (ci := 10) (rest := []) rfl rfl (mX10_melts l G r3 M4) ok_X10_melts k_X10_156 rfl rfl rfl rfl dX10_meltsAll_25) fun r5 M6 => ?_
    refine s_istore (lv' := [(5, .int r5), (4, .int r3), (3, .int v3), (0, rf G 0), (1, .int v1), (2, .int v2)]) dX10_meltsAll_28 rfl rfl ?_
    refine s_aload_n 3 dX10_meltsAll_30 rfl rfl ?_
    refine s_iload 1 dX10_meltsAll_31 rfl ?_
    refine s_iconst (v := 3) dX10_meltsAll_33 ci_3 ?_
    refine s_aload_n 3 dX10_meltsAll_34 rfl rfl ?_
    refine s_iload 1 dX10_meltsAll_35 rfl ?_
    refine s_iconst (v := 3) dX10_meltsAll_37 ci_3 ?_
    refine s_call_i (s_runV (ci := 10) (rest := [.int (3 : Int32), .int r3, rf G 0]) rfl rfl (mX10_its l G r3 (3 : Int32) M6) ok_X10_its k_X10_137 rfl rfl rfl rfl dX10_meltsAll_38) fun r7 M8 => ?_
    refine s_iload 0 dX10_meltsAll_41 rfl ?_
    refine s_isub dX10_meltsAll_43 ?_
    refine s_call_v (s_runV (ci := 10) (rest := []) rfl rfl (mX10_lays1 l G r3 (3 : Int32) (r7 - r5) M8) ok_X10_lays1 k_X10_68 rfl rfl rfl rfl dX10_meltsAll_44) fun r9 M10 => ?_
    refine s_aload_n 3 dX10_meltsAll_47 rfl rfl ?_
    refine s_iload 0 dX10_meltsAll_48 rfl ?_
    refine s_call_v (s_runV (ci := 10) (rest := []) rfl rfl (mX10_drips l G r5 M10) ok_X10_drips k_X10_172 rfl rfl rfl rfl dX10_meltsAll_50) fun r11 M12 => ?_
    refine s_aload_n 3 dX10_meltsAll_53 rfl rfl ?_
    refine s_iload 1 dX10_meltsAll_54 rfl ?_
    refine s_bipush (v := 6) dX10_meltsAll_56 cb_6 ?_
    refine s_aload_n 3 dX10_meltsAll_58 rfl rfl ?_
    refine s_iload 1 dX10_meltsAll_59 rfl ?_
    refine s_bipush (v := 6) dX10_meltsAll_61 cb_6 ?_
    refine s_call_i (s_runV (ci := 10) (rest := [.int (6 : Int32), .int r3, rf G 0]) rfl rfl (mX10_its l G r3 (6 : Int32) M12) ok_X10_its k_X10_137 rfl rfl rfl rfl dX10_meltsAll_63) fun r13 M14 => ?_
    refine s_iload_n 5 dX10_meltsAll_66 rfl rfl ?_
    refine s_iadd dX10_meltsAll_67 ?_
    refine s_iconst (v := 0) dX10_meltsAll_68 ci_0 ?_
    refine s_bipush (v := 99) dX10_meltsAll_69 cb_99 ?_
    refine s_call_i (s_runS (rest := [.int (6 : Int32), .int r3, rf G 0]) (mX10_held l G (r13 + v2) (0 : Int32) (99 : Int32) M14) ok_X10_held k_X10_64 rfl rfl rfl rfl dX10_meltsAll_71) fun r15 M16 => ?_
    refine s_call_v (s_runV (ci := 10) (rest := []) rfl rfl (mX10_lays1 l G r3 (6 : Int32) r15 M16) ok_X10_lays1 k_X10_68 rfl rfl rfl rfl dX10_meltsAll_74) fun r17 M18 => ?_
    refine s_iinc (k := 2) (lv' := [(3, .int (v3 + 1)), (5, .int r5), (4, .int r3), (0, rf G 0), (1, .int v1), (2, .int v2)]) dX10_meltsAll_77 rfl ci_1 rfl rfl ?_
    refine s_goto (tgt := 2) dX10_meltsAll_80 (by decide) ?_
    exact s_sub [0, 3, 4, 5] rfl (hq2 (v3 + 1) M18)
theorem tX10_meltsAll_L2 (l : Launch) (G : Gx) (v1 : Int32) (v2 : Int32) : ∀ (n : Nat) (v3 : Int32) (M : Mm), Sim cQv l layM G 5 cX10_meltsAll RX10 6 none 2 [(3, .int v3), (0, rf G 0), (1, .int v1), (2, .int v2)] [] M (fX10_meltsAll_L2 v1 v2 n v3 M)
  | 0, _, _ => s_none
  | n + 1, v3, M => tX10_meltsAll_L2b l G v1 v2 _ (tX10_meltsAll_L2 l G v1 v2 n) v3 M
def fX10_meltsAll (a1 : Int32) (a2 : Int32) (M : Mm) : Option (Unit × Mm) :=
  fX10_meltsAll_L2 a1 a2 FU (0 : Int32) M
theorem mX10_meltsAll (l : Launch) (G : Gx) (a1 : Int32) (a2 : Int32) (M : Mm) : Mt cQv l layM G 5 yX10_meltsAll cX10_meltsAll 6 none [rf G 0, .int a1, .int a2] M (fX10_meltsAll a1 a2 M) := by
  refine Mt.of2 (own := RX10) (lv := [(0, rf G 0), (1, .int a1), (2, .int a2)]) rfl (by decide +kernel) rfl rfl ?_
  unfold fX10_meltsAll
  refine s_iconst (v := 0) dX10_meltsAll_0 ci_0 ?_
  refine s_istore_n (lv' := [(3, .int (0 : Int32)), (0, rf G 0), (1, .int a1), (2, .int a2)]) dX10_meltsAll_1 rfl rfl rfl ?_
  exact s_sub [0, 1, 2, 3] rfl (tX10_meltsAll_L2 l G a1 a2 FU (0 : Int32) M)
theorem dX10_sheet1_0 : decode cX10_sheet1 0 = .ok (.aload_n 0, 1) := by decide +kernel
theorem dX10_sheet1_1 : decode cX10_sheet1 1 = .ok (.iload_n 1, 1) := by decide +kernel
theorem dX10_sheet1_2 : decode cX10_sheet1 2 = .ok (.invokevirtual 185, 3) := by decide +kernel
theorem dX10_sheet1_5 : decode cX10_sheet1 5 = .ok (.iconst 3, 1) := by decide +kernel
theorem dX10_sheet1_6 : decode cX10_sheet1 6 = .ok (.if_icmp .lt 7, 3) := by decide +kernel
theorem dX10_sheet1_9 : decode cX10_sheet1 9 = .ok (.iconst 1, 1) := by decide +kernel
theorem dX10_sheet1_10 : decode cX10_sheet1 10 = .ok (.goto 4, 3) := by decide +kernel
theorem dX10_sheet1_13 : decode cX10_sheet1 13 = .ok (.iconst 0, 1) := by decide +kernel
theorem dX10_sheet1_14 : decode cX10_sheet1 14 = .ok (.istore_n 2, 1) := by decide +kernel
theorem dX10_sheet1_15 : decode cX10_sheet1 15 = .ok (.aload_n 0, 1) := by decide +kernel
theorem dX10_sheet1_16 : decode cX10_sheet1 16 = .ok (.iload_n 1, 1) := by decide +kernel
theorem dX10_sheet1_17 : decode cX10_sheet1 17 = .ok (.iconst 1, 1) := by decide +kernel
theorem dX10_sheet1_18 : decode cX10_sheet1 18 = .ok (.invokevirtual 188, 3) := by decide +kernel
theorem dX10_sheet1_21 : decode cX10_sheet1 21 = .ok (.aload_n 0, 1) := by decide +kernel
theorem dX10_sheet1_22 : decode cX10_sheet1 22 = .ok (.getfield 7, 3) := by decide +kernel
theorem dX10_sheet1_25 : decode cX10_sheet1 25 = .ok (.sipush 180, 3) := by decide +kernel
theorem dX10_sheet1_28 : decode cX10_sheet1 28 = .ok (.bipush 10, 2) := by decide +kernel
theorem dX10_sheet1_30 : decode cX10_sheet1 30 = .ok (.iload_n 1, 1) := by decide +kernel
theorem dX10_sheet1_31 : decode cX10_sheet1 31 = .ok (.imul, 1) := by decide +kernel
theorem dX10_sheet1_32 : decode cX10_sheet1 32 = .ok (.iadd, 1) := by decide +kernel
theorem dX10_sheet1_33 : decode cX10_sheet1 33 = .ok (.iconst 1, 1) := by decide +kernel
theorem dX10_sheet1_34 : decode cX10_sheet1 34 = .ok (.iadd, 1) := by decide +kernel
theorem dX10_sheet1_35 : decode cX10_sheet1 35 = .ok (.dup2, 1) := by decide +kernel
theorem dX10_sheet1_36 : decode cX10_sheet1 36 = .ok (.iaload, 1) := by decide +kernel
theorem dX10_sheet1_37 : decode cX10_sheet1 37 = .ok (.iconst 1, 1) := by decide +kernel
theorem dX10_sheet1_38 : decode cX10_sheet1 38 = .ok (.iadd, 1) := by decide +kernel
theorem dX10_sheet1_39 : decode cX10_sheet1 39 = .ok (.iastore, 1) := by decide +kernel
theorem dX10_sheet1_40 : decode cX10_sheet1 40 = .ok (.iload_n 2, 1) := by decide +kernel
theorem dX10_sheet1_41 : decode cX10_sheet1 41 = .ok (.ireturn, 1) := by decide +kernel
def fX10_sheet1_B14 (v1 : Int32) (w0 : Int32) (M : Mm) : Option (Int32 × Mm) :=
  bd (fX10_meltsAll v1 (1 : Int32) M) fun r3 M4 =>
  gd (inb (((180 : Int32) + ((10 : Int32) * v1)) + (1 : Int32)) 626) <|
  lt (wr M4 1 (ix (((180 : Int32) + ((10 : Int32) * v1)) + (1 : Int32))) ((M4 1 (ix (((180 : Int32) + ((10 : Int32) * v1)) + (1 : Int32)))) + (1 : Int32))) fun M6 =>
  some (w0, M6)
theorem tX10_sheet1_B14 (l : Launch) (G : Gx) (v1 : Int32) (w0 : Int32) (M : Mm) : Sim cQi l layM G 6 cX10_sheet1 RX10 3 (some .int) 14 [(0, rf G 0), (1, .int v1)] [.int w0] M (fX10_sheet1_B14 v1 w0 M) := by
  unfold fX10_sheet1_B14
  refine s_istore_n (lv' := [(2, .int w0), (0, rf G 0), (1, .int v1)]) dX10_sheet1_14 rfl rfl rfl ?_
  refine s_aload_n 1 dX10_sheet1_15 rfl rfl ?_
  refine s_iload_n 2 dX10_sheet1_16 rfl rfl ?_
  refine s_iconst (v := 1) dX10_sheet1_17 ci_1 ?_
  refine s_call_v (s_runV (ci := 10) (rest := []) rfl rfl (mX10_meltsAll l G v1 (1 : Int32) M) ok_X10_meltsAll k_X10_188 rfl rfl rfl rfl dX10_sheet1_18) fun r3 M4 => ?_
  refine s_aload_n 1 dX10_sheet1_21 rfl rfl ?_
  refine g_X10_7 (q := 1) rfl rfl dX10_sheet1_22 ?_
  refine s_sipush (v := 180) dX10_sheet1_25 cs_180 ?_
  refine s_bipush (v := 10) dX10_sheet1_28 cb_10 ?_
  refine s_iload_n 2 dX10_sheet1_30 rfl rfl ?_
  refine s_imul dX10_sheet1_31 ?_
  refine s_iadd dX10_sheet1_32 ?_
  refine s_iconst (v := 1) dX10_sheet1_33 ci_1 ?_
  refine s_iadd dX10_sheet1_34 ?_
  refine s_dup2 dX10_sheet1_35 rfl rfl ?_
  refine s_gd fun h5 => ?_
  refine s_iald (n := 626) rfl h5 dX10_sheet1_36 ?_
  refine s_iconst (v := 1) dX10_sheet1_37 ci_1 ?_
  refine s_iadd dX10_sheet1_38 ?_
  refine s_iast (n := 626) rfl h5 dX10_sheet1_39 ?_
  refine s_letM fun M6 => ?_
  refine s_iload_n 0 dX10_sheet1_40 rfl rfl ?_
  exact s_iret rfl dX10_sheet1_41
def fX10_sheet1 (a1 : Int32) (M : Mm) : Option (Int32 × Mm) :=
  bd (fX10_seen a1 M) fun r1 M2 =>
  if r1 < (3 : Int32) then (fX10_sheet1_B14 a1 (0 : Int32) M2)
  else fX10_sheet1_B14 a1 (1 : Int32) M2
theorem mX10_sheet1 (l : Launch) (G : Gx) (a1 : Int32) (M : Mm) : Mt cQi l layM G 6 yX10_sheet1 cX10_sheet1 3 (some .int) [rf G 0, .int a1] M (fX10_sheet1 a1 M) := by
  refine Mt.of2 (own := RX10) (lv := [(0, rf G 0), (1, .int a1)]) rfl (by decide +kernel) rfl rfl ?_
  unfold fX10_sheet1
  refine s_aload_n 0 dX10_sheet1_0 rfl rfl ?_
  refine s_iload_n 1 dX10_sheet1_1 rfl rfl ?_
  refine s_call_i (s_runV (ci := 10) (rest := []) rfl rfl (mX10_seen l G a1 M) ok_X10_seen k_X10_185 rfl rfl rfl rfl dX10_sheet1_2) fun r1 M2 => ?_
  refine s_iconst (v := 3) dX10_sheet1_5 ci_3 ?_
  refine s_icmplt (tgt := 13) dX10_sheet1_6 (by decide) ?_ ?_
  · refine s_iconst (v := 0) dX10_sheet1_13 ci_0 ?_
    exact s_sub [0, 1] rfl (tX10_sheet1_B14 l G a1 (0 : Int32) M2)
  · refine s_iconst (v := 1) dX10_sheet1_9 ci_1 ?_
    refine s_goto (tgt := 14) dX10_sheet1_10 (by decide) ?_
    exact s_sub [0, 1] rfl (tX10_sheet1_B14 l G a1 (1 : Int32) M2)
theorem dX10_press_0 : decode cX10_press 0 = .ok (.iload_n 1, 1) := by decide +kernel
theorem dX10_press_1 : decode cX10_press 1 = .ok (.invokestatic 182, 3) := by decide +kernel
theorem dX10_press_4 : decode cX10_press 4 = .ok (.ifCond .eq 13, 3) := by decide +kernel
theorem dX10_press_7 : decode cX10_press 7 = .ok (.iload_n 2, 1) := by decide +kernel
theorem dX10_press_8 : decode cX10_press 8 = .ok (.iconst 1, 1) := by decide +kernel
theorem dX10_press_9 : decode cX10_press 9 = .ok (.bipush 99, 2) := by decide +kernel
theorem dX10_press_11 : decode cX10_press 11 = .ok (.invokestatic 59, 3) := by decide +kernel
theorem dX10_press_14 : decode cX10_press 14 = .ok (.ifCond .ne 9, 3) := by decide +kernel
theorem dX10_press_17 : decode cX10_press 17 = .ok (.aload_n 0, 1) := by decide +kernel
theorem dX10_press_18 : decode cX10_press 18 = .ok (.iconst 1, 1) := by decide +kernel
theorem dX10_press_19 : decode cX10_press 19 = .ok (.invokevirtual 75, 3) := by decide +kernel
theorem dX10_press_22 : decode cX10_press 22 = .ok (.ireturn, 1) := by decide +kernel
theorem dX10_press_23 : decode cX10_press 23 = .ok (.aload_n 0, 1) := by decide +kernel
theorem dX10_press_24 : decode cX10_press 24 = .ok (.iload_n 1, 1) := by decide +kernel
theorem dX10_press_25 : decode cX10_press 25 = .ok (.iconst 1, 1) := by decide +kernel
theorem dX10_press_26 : decode cX10_press 26 = .ok (.invokevirtual 153, 3) := by decide +kernel
theorem dX10_press_29 : decode cX10_press 29 = .ok (.iload_n 2, 1) := by decide +kernel
theorem dX10_press_30 : decode cX10_press 30 = .ok (.iadd, 1) := by decide +kernel
theorem dX10_press_31 : decode cX10_press 31 = .ok (.sipush 9999, 3) := by decide +kernel
theorem dX10_press_34 : decode cX10_press 34 = .ok (.if_icmp .le 9, 3) := by decide +kernel
theorem dX10_press_37 : decode cX10_press 37 = .ok (.aload_n 0, 1) := by decide +kernel
theorem dX10_press_38 : decode cX10_press 38 = .ok (.iconst 3, 1) := by decide +kernel
theorem dX10_press_39 : decode cX10_press 39 = .ok (.invokevirtual 75, 3) := by decide +kernel
theorem dX10_press_42 : decode cX10_press 42 = .ok (.ireturn, 1) := by decide +kernel
theorem dX10_press_43 : decode cX10_press 43 = .ok (.iconst 0, 1) := by decide +kernel
theorem dX10_press_44 : decode cX10_press 44 = .ok (.istore_n 3, 1) := by decide +kernel
theorem dX10_press_45 : decode cX10_press 45 = .ok (.iconst 0, 1) := by decide +kernel
theorem dX10_press_46 : decode cX10_press 46 = .ok (.istore 4, 2) := by decide +kernel
theorem dX10_press_48 : decode cX10_press 48 = .ok (.iload 4, 2) := by decide +kernel
theorem dX10_press_50 : decode cX10_press 50 = .ok (.iload_n 2, 1) := by decide +kernel
theorem dX10_press_51 : decode cX10_press 51 = .ok (.if_icmp .ge 17, 3) := by decide +kernel
theorem dX10_press_54 : decode cX10_press 54 = .ok (.iload_n 3, 1) := by decide +kernel
theorem dX10_press_55 : decode cX10_press 55 = .ok (.aload_n 0, 1) := by decide +kernel
theorem dX10_press_56 : decode cX10_press 56 = .ok (.iload_n 1, 1) := by decide +kernel
theorem dX10_press_57 : decode cX10_press 57 = .ok (.invokevirtual 191, 3) := by decide +kernel
theorem dX10_press_60 : decode cX10_press 60 = .ok (.iadd, 1) := by decide +kernel
theorem dX10_press_61 : decode cX10_press 61 = .ok (.istore_n 3, 1) := by decide +kernel
theorem dX10_press_62 : decode cX10_press 62 = .ok (.iinc 4 1, 3) := by decide +kernel
theorem dX10_press_65 : decode cX10_press 65 = .ok (.goto (-17), 3) := by decide +kernel
theorem dX10_press_68 : decode cX10_press 68 = .ok (.iload_n 3, 1) := by decide +kernel
theorem dX10_press_69 : decode cX10_press 69 = .ok (.ireturn, 1) := by decide +kernel
def fX10_press_B17 (M : Mm) : Option (Int32 × Mm) :=
  bd (fX10_error (1 : Int32) M) fun r5 M6 =>
  some (r5, M6)
theorem tX10_press_B17 (l : Launch) (G : Gx) (M : Mm) : Sim cQi l layM G 7 cX10_press RX10 5 (some .int) 17 [(0, rf G 0)] [] M (fX10_press_B17 M) := by
  unfold fX10_press_B17
  refine s_aload_n 0 dX10_press_17 rfl rfl ?_
  refine s_iconst (v := 1) dX10_press_18 ci_1 ?_
  refine s_call_i (s_runV (ci := 10) (rest := []) rfl rfl (mX10_error l G (1 : Int32) M) ok_X10_error k_X10_75 rfl rfl rfl rfl dX10_press_19) fun r5 M6 => ?_
  exact s_iret rfl dX10_press_22
def fX10_press_B68 (v3 : Int32) (M : Mm) : Option (Int32 × Mm) :=
  some (v3, M)
theorem tX10_press_B68 (l : Launch) (G : Gx) (v3 : Int32) (M : Mm) : Sim cQi l layM G 7 cX10_press RX10 5 (some .int) 68 [(3, .int v3)] [] M (fX10_press_B68 v3 M) := by
  unfold fX10_press_B68
  refine s_iload_n 0 dX10_press_68 rfl rfl ?_
  exact s_iret rfl dX10_press_69
def fX10_press_L48b (v1 : Int32) (v2 : Int32) (q48 : Int32 → Int32 → Mm → Option (Int32 × Mm)) (v4 : Int32) (v3 : Int32) (M : Mm) : Option (Int32 × Mm) :=
  if v2 ≤ v4 then (fX10_press_B68 v3 M)
  else bd (fX10_sheet1 v1 M) fun r9 M10 =>
  lt (v3 + r9) fun x11 =>
  q48 (v4 + 1) x11 M10
def fX10_press_L48 (v1 : Int32) (v2 : Int32) : Nat → Int32 → Int32 → Mm → Option (Int32 × Mm)
  | 0 => fun _ _ _ => none
  | n + 1 => fX10_press_L48b v1 v2 (fX10_press_L48 v1 v2 n)
theorem tX10_press_L48b (l : Launch) (G : Gx) (v1 : Int32) (v2 : Int32) (q48 : Int32 → Int32 → Mm → Option (Int32 × Mm)) (hq48 : ∀ (v4 : Int32) (v3 : Int32) (M : Mm), Sim cQi l layM G 7 cX10_press RX10 5 (some .int) 48 [(4, .int v4), (3, .int v3), (0, rf G 0), (1, .int v1), (2, .int v2)] [] M (q48 v4 v3 M)) (v4 : Int32) (v3 : Int32) (M : Mm) : Sim cQi l layM G 7 cX10_press RX10 5 (some .int) 48 [(4, .int v4), (3, .int v3), (0, rf G 0), (1, .int v1), (2, .int v2)] [] M (fX10_press_L48b v1 v2 q48 v4 v3 M) := by
  unfold fX10_press_L48b
  refine s_iload 0 dX10_press_48 rfl ?_
  refine s_iload_n 4 dX10_press_50 rfl rfl ?_
  refine s_icmpge (tgt := 68) dX10_press_51 (by decide) ?_ ?_
  · exact s_sub [1] rfl (tX10_press_B68 l G v3 M)
  · refine s_iload_n 1 dX10_press_54 rfl rfl ?_
    refine s_aload_n 2 dX10_press_55 rfl rfl ?_
    refine s_iload_n 3 dX10_press_56 rfl rfl ?_
    refine s_call_i (s_runV (ci := 10) (rest := [.int v3]) rfl rfl (mX10_sheet1 l G v1 M) ok_X10_sheet1 k_X10_191 rfl rfl rfl rfl dX10_press_57) fun r9 M10 => ?_
    refine s_iadd dX10_press_60 ?_
    refine s_leti fun x11 => ?_
    refine s_istore_n (lv' := [(3, .int x11), (4, .int v4), (0, rf G 0), (1, .int v1), (2, .int v2)]) dX10_press_61 rfl rfl rfl ?_
    refine s_iinc (k := 1) (lv' := [(4, .int (v4 + 1)), (3, .int x11), (0, rf G 0), (1, .int v1), (2, .int v2)]) dX10_press_62 rfl ci_1 rfl rfl ?_
    refine s_goto (tgt := 48) dX10_press_65 (by decide) ?_
    exact s_sub [0, 1, 2, 3, 4] rfl (hq48 (v4 + 1) x11 M10)
theorem tX10_press_L48 (l : Launch) (G : Gx) (v1 : Int32) (v2 : Int32) : ∀ (n : Nat) (v4 : Int32) (v3 : Int32) (M : Mm), Sim cQi l layM G 7 cX10_press RX10 5 (some .int) 48 [(4, .int v4), (3, .int v3), (0, rf G 0), (1, .int v1), (2, .int v2)] [] M (fX10_press_L48 v1 v2 n v4 v3 M)
  | 0, _, _, _ => s_none
  | n + 1, v4, v3, M => tX10_press_L48b l G v1 v2 _ (tX10_press_L48 l G v1 v2 n) v4 v3 M
def fX10_press (a1 : Int32) (a2 : Int32) (M : Mm) : Option (Int32 × Mm) :=
  bd (fX10_isPage a1 M) fun r1 M2 =>
  if r1 = true then (bd (fX10_in a2 (1 : Int32) (99 : Int32) M2) fun r3 M4 =>
  if r3 = true then (bd (fX10_of a1 (1 : Int32) M4) fun r7 M8 =>
  if (r7 + a2) ≤ (9999 : Int32) then (fX10_press_L48 a1 a2 FU (0 : Int32) (0 : Int32) M8)
  else bd (fX10_error (3 : Int32) M8) fun r12 M13 =>
  some (r12, M13))
  else fX10_press_B17 M4)
  else fX10_press_B17 M2
theorem mX10_press (l : Launch) (G : Gx) (a1 : Int32) (a2 : Int32) (M : Mm) : Mt cQi l layM G 7 yX10_press cX10_press 5 (some .int) [rf G 0, .int a1, .int a2] M (fX10_press a1 a2 M) := by
  refine Mt.of2 (own := RX10) (lv := [(0, rf G 0), (1, .int a1), (2, .int a2)]) rfl (by decide +kernel) rfl rfl ?_
  unfold fX10_press
  refine s_iload_n 1 dX10_press_0 rfl rfl ?_
  refine s_call_z (s_runS (rest := []) (mX10_isPage l G a1 M) ok_X10_isPage k_X10_182 rfl rfl rfl rfl dX10_press_1) fun r1 M2 => ?_
  refine s_ifeqB (tgt := 17) dX10_press_4 (by decide) ?_ ?_
  · exact s_sub [0] rfl (tX10_press_B17 l G M2)
  · refine s_iload_n 2 dX10_press_7 rfl rfl ?_
    refine s_iconst (v := 1) dX10_press_8 ci_1 ?_
    refine s_bipush (v := 99) dX10_press_9 cb_99 ?_
    refine s_call_z (s_runS (rest := []) (mX10_in l G a2 (1 : Int32) (99 : Int32) M2) ok_X10_in k_X10_59 rfl rfl rfl rfl dX10_press_11) fun r3 M4 => ?_
    refine s_ifneB (tgt := 23) dX10_press_14 (by decide) ?_ ?_
    · refine s_aload_n 0 dX10_press_23 rfl rfl ?_
      refine s_iload_n 1 dX10_press_24 rfl rfl ?_
      refine s_iconst (v := 1) dX10_press_25 ci_1 ?_
      refine s_call_i (s_runV (ci := 10) (rest := []) rfl rfl (mX10_of l G a1 (1 : Int32) M4) ok_X10_of k_X10_153 rfl rfl rfl rfl dX10_press_26) fun r7 M8 => ?_
      refine s_iload_n 2 dX10_press_29 rfl rfl ?_
      refine s_iadd dX10_press_30 ?_
      refine s_sipush (v := 9999) dX10_press_31 cs_9999 ?_
      refine s_icmple (tgt := 43) dX10_press_34 (by decide) ?_ ?_
      · refine s_iconst (v := 0) dX10_press_43 ci_0 ?_
        refine s_istore_n (lv' := [(3, .int (0 : Int32)), (0, rf G 0), (1, .int a1), (2, .int a2)]) dX10_press_44 rfl rfl rfl ?_
        refine s_iconst (v := 0) dX10_press_45 ci_0 ?_
        refine s_istore (lv' := [(4, .int (0 : Int32)), (3, .int (0 : Int32)), (0, rf G 0), (1, .int a1), (2, .int a2)]) dX10_press_46 rfl rfl ?_
        exact s_sub [0, 1, 2, 3, 4] rfl (tX10_press_L48 l G a1 a2 FU (0 : Int32) (0 : Int32) M8)
      · refine s_aload_n 0 dX10_press_37 rfl rfl ?_
        refine s_iconst (v := 3) dX10_press_38 ci_3 ?_
        refine s_call_i (s_runV (ci := 10) (rest := []) rfl rfl (mX10_error l G (3 : Int32) M8) ok_X10_error k_X10_75 rfl rfl rfl rfl dX10_press_39) fun r12 M13 => ?_
        exact s_iret rfl dX10_press_42
    · exact s_sub [0] rfl (tX10_press_B17 l G M4)
theorem dX10_isAhead_0 : decode cX10_isAhead 0 = .ok (.iload_n 0, 1) := by decide +kernel
theorem dX10_isAhead_1 : decode cX10_isAhead 1 = .ok (.iconst 0, 1) := by decide +kernel
theorem dX10_isAhead_2 : decode cX10_isAhead 2 = .ok (.bipush 99, 2) := by decide +kernel
theorem dX10_isAhead_4 : decode cX10_isAhead 4 = .ok (.invokestatic 59, 3) := by decide +kernel
theorem dX10_isAhead_7 : decode cX10_isAhead 7 = .ok (.ireturn, 1) := by decide +kernel
def fX10_isAhead (a1 : Int32) (M : Mm) : Option (Bool × Mm) :=
  bd (fX10_in a1 (0 : Int32) (99 : Int32) M) fun r1 M2 =>
  some (r1, M2)
theorem mX10_isAhead (l : Launch) (G : Gx) (a1 : Int32) (M : Mm) : Mt cQz l layM G 2 yX10_isAhead cX10_isAhead 1 (some .boolean) [.int a1] M (fX10_isAhead a1 M) := by
  refine Mt.of2 (own := RX10) (lv := [(0, .int a1)]) rfl (by decide +kernel) rfl rfl ?_
  unfold fX10_isAhead
  refine s_iload_n 0 dX10_isAhead_0 rfl rfl ?_
  refine s_iconst (v := 0) dX10_isAhead_1 ci_0 ?_
  refine s_bipush (v := 99) dX10_isAhead_2 cb_99 ?_
  refine s_call_z (s_runS (rest := []) (mX10_in l G a1 (0 : Int32) (99 : Int32) M) ok_X10_in k_X10_59 rfl rfl rfl rfl dX10_isAhead_4) fun r1 M2 => ?_
  exact s_zretB rfl dX10_isAhead_7
theorem dX10_runOf_0 : decode cX10_runOf 0 = .ok (.aload_n 0, 1) := by decide +kernel
theorem dX10_runOf_1 : decode cX10_runOf 1 = .ok (.getfield 7, 3) := by decide +kernel
theorem dX10_runOf_4 : decode cX10_runOf 4 = .ok (.aload_n 0, 1) := by decide +kernel
theorem dX10_runOf_5 : decode cX10_runOf 5 = .ok (.getfield 16, 3) := by decide +kernel
theorem dX10_runOf_8 : decode cX10_runOf 8 = .ok (.invokestatic 194, 3) := by decide +kernel
theorem dX10_runOf_11 : decode cX10_runOf 11 = .ok (.iconst 0, 1) := by decide +kernel
theorem dX10_runOf_12 : decode cX10_runOf 12 = .ok (.istore_n 3, 1) := by decide +kernel
theorem dX10_runOf_13 : decode cX10_runOf 13 = .ok (.iload_n 3, 1) := by decide +kernel
theorem dX10_runOf_14 : decode cX10_runOf 14 = .ok (.iload_n 2, 1) := by decide +kernel
theorem dX10_runOf_15 : decode cX10_runOf 15 = .ok (.if_icmp .ge 18, 3) := by decide +kernel
theorem dX10_runOf_18 : decode cX10_runOf 18 = .ok (.aload_n 0, 1) := by decide +kernel
theorem dX10_runOf_19 : decode cX10_runOf 19 = .ok (.iload_n 1, 1) := by decide +kernel
theorem dX10_runOf_20 : decode cX10_runOf 20 = .ok (.invokevirtual 191, 3) := by decide +kernel
theorem dX10_runOf_23 : decode cX10_runOf 23 = .ok (.iconst 1, 1) := by decide +kernel
theorem dX10_runOf_24 : decode cX10_runOf 24 = .ok (.if_icmp .ne 9, 3) := by decide +kernel
theorem dX10_runOf_27 : decode cX10_runOf 27 = .ok (.iinc 3 1, 3) := by decide +kernel
theorem dX10_runOf_30 : decode cX10_runOf 30 = .ok (.goto (-17), 3) := by decide +kernel
theorem dX10_runOf_33 : decode cX10_runOf 33 = .ok (.aload_n 0, 1) := by decide +kernel
theorem dX10_runOf_34 : decode cX10_runOf 34 = .ok (.getfield 16, 3) := by decide +kernel
theorem dX10_runOf_37 : decode cX10_runOf 37 = .ok (.aload_n 0, 1) := by decide +kernel
theorem dX10_runOf_38 : decode cX10_runOf 38 = .ok (.getfield 7, 3) := by decide +kernel
theorem dX10_runOf_41 : decode cX10_runOf 41 = .ok (.invokestatic 194, 3) := by decide +kernel
theorem dX10_runOf_44 : decode cX10_runOf 44 = .ok (.iload_n 3, 1) := by decide +kernel
theorem dX10_runOf_45 : decode cX10_runOf 45 = .ok (.ireturn, 1) := by decide +kernel
def fX10_runOf_B33 (v3 : Int32) (M : Mm) : Option (Int32 × Mm) :=
  bd (fX10_carry_3_1 M) fun r3 M4 =>
  some (v3, M4)
theorem tX10_runOf_B33 (l : Launch) (G : Gx) (v3 : Int32) (M : Mm) : Sim cQi l layM G 7 cX10_runOf RX10 4 (some .int) 33 [(3, .int v3), (0, rf G 0)] [] M (fX10_runOf_B33 v3 M) := by
  unfold fX10_runOf_B33
  refine s_aload_n 1 dX10_runOf_33 rfl rfl ?_
  refine g_X10_16 (q := 3) rfl rfl dX10_runOf_34 ?_
  refine s_aload_n 1 dX10_runOf_37 rfl rfl ?_
  refine g_X10_7 (q := 1) rfl rfl dX10_runOf_38 ?_
  refine s_call_v (s_runS (rest := []) (mX10_carry_3_1 l G M) ok_X10_carry k_X10_194 rfl rfl rfl rfl dX10_runOf_41) fun r3 M4 => ?_
  refine s_iload_n 0 dX10_runOf_44 rfl rfl ?_
  exact s_iret rfl dX10_runOf_45
def fX10_runOf_L13b (v1 : Int32) (v2 : Int32) (q13 : Int32 → Mm → Option (Int32 × Mm)) (v3 : Int32) (M : Mm) : Option (Int32 × Mm) :=
  if v2 ≤ v3 then (fX10_runOf_B33 v3 M)
  else bd (fX10_sheet1 v1 M) fun r5 M6 =>
  if r5 = (1 : Int32) then (q13 (v3 + 1) M6)
  else fX10_runOf_B33 v3 M6
def fX10_runOf_L13 (v1 : Int32) (v2 : Int32) : Nat → Int32 → Mm → Option (Int32 × Mm)
  | 0 => fun _ _ => none
  | n + 1 => fX10_runOf_L13b v1 v2 (fX10_runOf_L13 v1 v2 n)
theorem tX10_runOf_L13b (l : Launch) (G : Gx) (v1 : Int32) (v2 : Int32) (q13 : Int32 → Mm → Option (Int32 × Mm)) (hq13 : ∀ (v3 : Int32) (M : Mm), Sim cQi l layM G 7 cX10_runOf RX10 4 (some .int) 13 [(3, .int v3), (0, rf G 0), (1, .int v1), (2, .int v2)] [] M (q13 v3 M)) (v3 : Int32) (M : Mm) : Sim cQi l layM G 7 cX10_runOf RX10 4 (some .int) 13 [(3, .int v3), (0, rf G 0), (1, .int v1), (2, .int v2)] [] M (fX10_runOf_L13b v1 v2 q13 v3 M) := by
  unfold fX10_runOf_L13b
  refine s_iload_n 0 dX10_runOf_13 rfl rfl ?_
  refine s_iload_n 3 dX10_runOf_14 rfl rfl ?_
  refine s_icmpge (tgt := 33) dX10_runOf_15 (by decide) ?_ ?_
  · exact s_sub [0, 1] rfl (tX10_runOf_B33 l G v3 M)
  · refine s_aload_n 1 dX10_runOf_18 rfl rfl ?_
    refine s_iload_n 2 dX10_runOf_19 rfl rfl ?_
    refine s_call_i (s_runV (ci := 10) (rest := []) rfl rfl (mX10_sheet1 l G v1 M) ok_X10_sheet1 k_X10_191 rfl rfl rfl rfl dX10_runOf_20) fun r5 M6 => ?_
    refine s_iconst (v := 1) dX10_runOf_23 ci_1 ?_
    refine s_icmpne (tgt := 33) dX10_runOf_24 (by decide) ?_ ?_
    · exact s_sub [0, 1] rfl (tX10_runOf_B33 l G v3 M6)
    · refine s_iinc (k := 0) (lv' := [(3, .int (v3 + 1)), (0, rf G 0), (1, .int v1), (2, .int v2)]) dX10_runOf_27 rfl ci_1 rfl rfl ?_
      refine s_goto (tgt := 13) dX10_runOf_30 (by decide) ?_
      exact s_sub [0, 1, 2, 3] rfl (hq13 (v3 + 1) M6)
theorem tX10_runOf_L13 (l : Launch) (G : Gx) (v1 : Int32) (v2 : Int32) : ∀ (n : Nat) (v3 : Int32) (M : Mm), Sim cQi l layM G 7 cX10_runOf RX10 4 (some .int) 13 [(3, .int v3), (0, rf G 0), (1, .int v1), (2, .int v2)] [] M (fX10_runOf_L13 v1 v2 n v3 M)
  | 0, _, _ => s_none
  | n + 1, v3, M => tX10_runOf_L13b l G v1 v2 _ (tX10_runOf_L13 l G v1 v2 n) v3 M
def fX10_runOf (a1 : Int32) (a2 : Int32) (M : Mm) : Option (Int32 × Mm) :=
  bd (fX10_carry_1_3 M) fun r1 M2 =>
  fX10_runOf_L13 a1 a2 FU (0 : Int32) M2
theorem mX10_runOf (l : Launch) (G : Gx) (a1 : Int32) (a2 : Int32) (M : Mm) : Mt cQi l layM G 7 yX10_runOf cX10_runOf 4 (some .int) [rf G 0, .int a1, .int a2] M (fX10_runOf a1 a2 M) := by
  refine Mt.of2 (own := RX10) (lv := [(0, rf G 0), (1, .int a1), (2, .int a2)]) rfl (by decide +kernel) rfl rfl ?_
  unfold fX10_runOf
  refine s_aload_n 0 dX10_runOf_0 rfl rfl ?_
  refine g_X10_7 (q := 1) rfl rfl dX10_runOf_1 ?_
  refine s_aload_n 0 dX10_runOf_4 rfl rfl ?_
  refine g_X10_16 (q := 3) rfl rfl dX10_runOf_5 ?_
  refine s_call_v (s_runS (rest := []) (mX10_carry_1_3 l G M) ok_X10_carry k_X10_194 rfl rfl rfl rfl dX10_runOf_8) fun r1 M2 => ?_
  refine s_iconst (v := 0) dX10_runOf_11 ci_0 ?_
  refine s_istore_n (lv' := [(3, .int (0 : Int32)), (0, rf G 0), (1, .int a1), (2, .int a2)]) dX10_runOf_12 rfl rfl rfl ?_
  exact s_sub [0, 1, 2, 3] rfl (tX10_runOf_L13 l G a1 a2 FU (0 : Int32) M2)
theorem dX10_run_0 : decode cX10_run 0 = .ok (.iload_n 1, 1) := by decide +kernel
theorem dX10_run_1 : decode cX10_run 1 = .ok (.invokestatic 182, 3) := by decide +kernel
theorem dX10_run_4 : decode cX10_run 4 = .ok (.ifCond .eq 19, 3) := by decide +kernel
theorem dX10_run_7 : decode cX10_run 7 = .ok (.iload_n 2, 1) := by decide +kernel
theorem dX10_run_8 : decode cX10_run 8 = .ok (.invokestatic 198, 3) := by decide +kernel
theorem dX10_run_11 : decode cX10_run 11 = .ok (.ifCond .eq 12, 3) := by decide +kernel
theorem dX10_run_14 : decode cX10_run 14 = .ok (.aload_n 0, 1) := by decide +kernel
theorem dX10_run_15 : decode cX10_run 15 = .ok (.iload_n 1, 1) := by decide +kernel
theorem dX10_run_16 : decode cX10_run 16 = .ok (.iload_n 2, 1) := by decide +kernel
theorem dX10_run_17 : decode cX10_run 17 = .ok (.invokevirtual 201, 3) := by decide +kernel
theorem dX10_run_20 : decode cX10_run 20 = .ok (.goto 8, 3) := by decide +kernel
theorem dX10_run_23 : decode cX10_run 23 = .ok (.aload_n 0, 1) := by decide +kernel
theorem dX10_run_24 : decode cX10_run 24 = .ok (.iconst 1, 1) := by decide +kernel
theorem dX10_run_25 : decode cX10_run 25 = .ok (.invokevirtual 75, 3) := by decide +kernel
theorem dX10_run_28 : decode cX10_run 28 = .ok (.ireturn, 1) := by decide +kernel
def fX10_run_B28 (w0 : Int32) (M : Mm) : Option (Int32 × Mm) :=
  some (w0, M)
theorem tX10_run_B28 (l : Launch) (G : Gx) (w0 : Int32) (M : Mm) : Sim cQi l layM G 8 cX10_run RX10 3 (some .int) 28 [] [.int w0] M (fX10_run_B28 w0 M) := by
  unfold fX10_run_B28
  exact s_iret rfl dX10_run_28
def fX10_run_B23 (M : Mm) : Option (Int32 × Mm) :=
  bd (fX10_error (1 : Int32) M) fun r7 M8 =>
  fX10_run_B28 r7 M8
theorem tX10_run_B23 (l : Launch) (G : Gx) (M : Mm) : Sim cQi l layM G 8 cX10_run RX10 3 (some .int) 23 [(0, rf G 0)] [] M (fX10_run_B23 M) := by
  unfold fX10_run_B23
  refine s_aload_n 0 dX10_run_23 rfl rfl ?_
  refine s_iconst (v := 1) dX10_run_24 ci_1 ?_
  refine s_call_i (s_runV (ci := 10) (rest := []) rfl rfl (mX10_error l G (1 : Int32) M) ok_X10_error k_X10_75 rfl rfl rfl rfl dX10_run_25) fun r7 M8 => ?_
  exact s_sub [] rfl (tX10_run_B28 l G r7 M8)
def fX10_run (a1 : Int32) (a2 : Int32) (M : Mm) : Option (Int32 × Mm) :=
  bd (fX10_isPage a1 M) fun r1 M2 =>
  if r1 = true then (bd (fX10_isAhead a2 M2) fun r3 M4 =>
  if r3 = true then (bd (fX10_runOf a1 a2 M4) fun r5 M6 =>
  fX10_run_B28 r5 M6)
  else fX10_run_B23 M4)
  else fX10_run_B23 M2
theorem mX10_run (l : Launch) (G : Gx) (a1 : Int32) (a2 : Int32) (M : Mm) : Mt cQi l layM G 8 yX10_run cX10_run 3 (some .int) [rf G 0, .int a1, .int a2] M (fX10_run a1 a2 M) := by
  refine Mt.of2 (own := RX10) (lv := [(0, rf G 0), (1, .int a1), (2, .int a2)]) rfl (by decide +kernel) rfl rfl ?_
  unfold fX10_run
  refine s_iload_n 1 dX10_run_0 rfl rfl ?_
  refine s_call_z (s_runS (rest := []) (mX10_isPage l G a1 M) ok_X10_isPage k_X10_182 rfl rfl rfl rfl dX10_run_1) fun r1 M2 => ?_
  refine s_ifeqB (tgt := 23) dX10_run_4 (by decide) ?_ ?_
  · exact s_sub [0] rfl (tX10_run_B23 l G M2)
  · refine s_iload_n 2 dX10_run_7 rfl rfl ?_
    refine s_call_z (s_runS (rest := []) (mX10_isAhead l G a2 M2) ok_X10_isAhead k_X10_198 rfl rfl rfl rfl dX10_run_8) fun r3 M4 => ?_
    refine s_ifeqB (tgt := 23) dX10_run_11 (by decide) ?_ ?_
    · exact s_sub [0] rfl (tX10_run_B23 l G M4)
    · refine s_aload_n 0 dX10_run_14 rfl rfl ?_
      refine s_iload_n 1 dX10_run_15 rfl rfl ?_
      refine s_iload_n 2 dX10_run_16 rfl rfl ?_
      refine s_call_i (s_runV (ci := 10) (rest := []) rfl rfl (mX10_runOf l G a1 a2 M4) ok_X10_runOf k_X10_201 rfl rfl rfl rfl dX10_run_17) fun r5 M6 => ?_
      refine s_goto (tgt := 28) dX10_run_20 (by decide) ?_
      exact s_sub [] rfl (tX10_run_B28 l G r5 M6)
theorem dX10_lost_0 : decode cX10_lost 0 = .ok (.aload_n 0, 1) := by decide +kernel
theorem dX10_lost_1 : decode cX10_lost 1 = .ok (.iload_n 1, 1) := by decide +kernel
theorem dX10_lost_2 : decode cX10_lost 2 = .ok (.invokevirtual 162, 3) := by decide +kernel
theorem dX10_lost_5 : decode cX10_lost 5 = .ok (.ifCond .ne 9, 3) := by decide +kernel
theorem dX10_lost_8 : decode cX10_lost 8 = .ok (.aload_n 0, 1) := by decide +kernel
theorem dX10_lost_9 : decode cX10_lost 9 = .ok (.iconst 1, 1) := by decide +kernel
theorem dX10_lost_10 : decode cX10_lost 10 = .ok (.invokevirtual 75, 3) := by decide +kernel
theorem dX10_lost_13 : decode cX10_lost 13 = .ok (.ireturn, 1) := by decide +kernel
theorem dX10_lost_14 : decode cX10_lost 14 = .ok (.aload_n 0, 1) := by decide +kernel
theorem dX10_lost_15 : decode cX10_lost 15 = .ok (.iload_n 1, 1) := by decide +kernel
theorem dX10_lost_16 : decode cX10_lost 16 = .ok (.iconst 5, 1) := by decide +kernel
theorem dX10_lost_17 : decode cX10_lost 17 = .ok (.invokevirtual 137, 3) := by decide +kernel
theorem dX10_lost_20 : decode cX10_lost 20 = .ok (.istore_n 2, 1) := by decide +kernel
theorem dX10_lost_21 : decode cX10_lost 21 = .ok (.iload_n 2, 1) := by decide +kernel
theorem dX10_lost_22 : decode cX10_lost 22 = .ok (.iconst (-1), 1) := by decide +kernel
theorem dX10_lost_23 : decode cX10_lost 23 = .ok (.if_icmp .ne 9, 3) := by decide +kernel
theorem dX10_lost_26 : decode cX10_lost 26 = .ok (.aload_n 0, 1) := by decide +kernel
theorem dX10_lost_27 : decode cX10_lost 27 = .ok (.iconst 3, 1) := by decide +kernel
theorem dX10_lost_28 : decode cX10_lost 28 = .ok (.invokevirtual 75, 3) := by decide +kernel
theorem dX10_lost_31 : decode cX10_lost 31 = .ok (.ireturn, 1) := by decide +kernel
theorem dX10_lost_32 : decode cX10_lost 32 = .ok (.aload_n 0, 1) := by decide +kernel
theorem dX10_lost_33 : decode cX10_lost 33 = .ok (.getfield 7, 3) := by decide +kernel
theorem dX10_lost_36 : decode cX10_lost 36 = .ok (.aload_n 0, 1) := by decide +kernel
theorem dX10_lost_37 : decode cX10_lost 37 = .ok (.getfield 16, 3) := by decide +kernel
theorem dX10_lost_40 : decode cX10_lost 40 = .ok (.invokestatic 194, 3) := by decide +kernel
theorem dX10_lost_43 : decode cX10_lost 43 = .ok (.iconst 0, 1) := by decide +kernel
theorem dX10_lost_44 : decode cX10_lost 44 = .ok (.istore_n 3, 1) := by decide +kernel
theorem dX10_lost_45 : decode cX10_lost 45 = .ok (.iload_n 3, 1) := by decide +kernel
theorem dX10_lost_46 : decode cX10_lost 46 = .ok (.bipush 99, 2) := by decide +kernel
theorem dX10_lost_48 : decode cX10_lost 48 = .ok (.if_icmp .ge 25, 3) := by decide +kernel
theorem dX10_lost_51 : decode cX10_lost 51 = .ok (.aload_n 0, 1) := by decide +kernel
theorem dX10_lost_52 : decode cX10_lost 52 = .ok (.iload_n 1, 1) := by decide +kernel
theorem dX10_lost_53 : decode cX10_lost 53 = .ok (.invokevirtual 159, 3) := by decide +kernel
theorem dX10_lost_56 : decode cX10_lost 56 = .ok (.iconst 3, 1) := by decide +kernel
theorem dX10_lost_57 : decode cX10_lost 57 = .ok (.if_icmp .lt 16, 3) := by decide +kernel
theorem dX10_lost_60 : decode cX10_lost 60 = .ok (.aload_n 0, 1) := by decide +kernel
theorem dX10_lost_61 : decode cX10_lost 61 = .ok (.iload_n 2, 1) := by decide +kernel
theorem dX10_lost_62 : decode cX10_lost 62 = .ok (.invokevirtual 191, 3) := by decide +kernel
theorem dX10_lost_65 : decode cX10_lost 65 = .ok (.istore 4, 2) := by decide +kernel
theorem dX10_lost_67 : decode cX10_lost 67 = .ok (.iinc 3 1, 3) := by decide +kernel
theorem dX10_lost_70 : decode cX10_lost 70 = .ok (.goto (-25), 3) := by decide +kernel
theorem dX10_lost_73 : decode cX10_lost 73 = .ok (.aload_n 0, 1) := by decide +kernel
theorem dX10_lost_74 : decode cX10_lost 74 = .ok (.iload_n 1, 1) := by decide +kernel
theorem dX10_lost_75 : decode cX10_lost 75 = .ok (.invokevirtual 159, 3) := by decide +kernel
theorem dX10_lost_78 : decode cX10_lost 78 = .ok (.iconst 3, 1) := by decide +kernel
theorem dX10_lost_79 : decode cX10_lost 79 = .ok (.if_icmp .ge 7, 3) := by decide +kernel
theorem dX10_lost_82 : decode cX10_lost 82 = .ok (.iconst 1, 1) := by decide +kernel
theorem dX10_lost_83 : decode cX10_lost 83 = .ok (.goto 4, 3) := by decide +kernel
theorem dX10_lost_86 : decode cX10_lost 86 = .ok (.iconst 0, 1) := by decide +kernel
theorem dX10_lost_87 : decode cX10_lost 87 = .ok (.istore 4, 2) := by decide +kernel
theorem dX10_lost_89 : decode cX10_lost 89 = .ok (.aload_n 0, 1) := by decide +kernel
theorem dX10_lost_90 : decode cX10_lost 90 = .ok (.getfield 16, 3) := by decide +kernel
theorem dX10_lost_93 : decode cX10_lost 93 = .ok (.aload_n 0, 1) := by decide +kernel
theorem dX10_lost_94 : decode cX10_lost 94 = .ok (.getfield 7, 3) := by decide +kernel
theorem dX10_lost_97 : decode cX10_lost 97 = .ok (.invokestatic 194, 3) := by decide +kernel
theorem dX10_lost_100 : decode cX10_lost 100 = .ok (.iload 4, 2) := by decide +kernel
theorem dX10_lost_102 : decode cX10_lost 102 = .ok (.ifCond .eq 7, 3) := by decide +kernel
theorem dX10_lost_105 : decode cX10_lost 105 = .ok (.iload_n 3, 1) := by decide +kernel
theorem dX10_lost_106 : decode cX10_lost 106 = .ok (.goto 8, 3) := by decide +kernel
theorem dX10_lost_109 : decode cX10_lost 109 = .ok (.aload_n 0, 1) := by decide +kernel
theorem dX10_lost_110 : decode cX10_lost 110 = .ok (.iconst 2, 1) := by decide +kernel
theorem dX10_lost_111 : decode cX10_lost 111 = .ok (.invokevirtual 75, 3) := by decide +kernel
theorem dX10_lost_114 : decode cX10_lost 114 = .ok (.ireturn, 1) := by decide +kernel
def fX10_lost_B114 (w0 : Int32) (M : Mm) : Option (Int32 × Mm) :=
  some (w0, M)
theorem tX10_lost_B114 (l : Launch) (G : Gx) (w0 : Int32) (M : Mm) : Sim cQi l layM G 7 cX10_lost RX10 5 (some .int) 114 [] [.int w0] M (fX10_lost_B114 w0 M) := by
  unfold fX10_lost_B114
  exact s_iret rfl dX10_lost_114
def fX10_lost_B87 (v3 : Int32) (w0 : Int32) (M : Mm) : Option (Int32 × Mm) :=
  bd (fX10_carry_3_1 M) fun r11 M12 =>
  if w0 = 0 then (bd (fX10_error (2 : Int32) M12) fun r13 M14 =>
  fX10_lost_B114 r13 M14)
  else fX10_lost_B114 v3 M12
theorem tX10_lost_B87 (l : Launch) (G : Gx) (v3 : Int32) (w0 : Int32) (M : Mm) : Sim cQi l layM G 7 cX10_lost RX10 5 (some .int) 87 [(3, .int v3), (0, rf G 0)] [.int w0] M (fX10_lost_B87 v3 w0 M) := by
  unfold fX10_lost_B87
  refine s_istore (lv' := [(4, .int w0), (3, .int v3), (0, rf G 0)]) dX10_lost_87 rfl rfl ?_
  refine s_aload_n 2 dX10_lost_89 rfl rfl ?_
  refine g_X10_16 (q := 3) rfl rfl dX10_lost_90 ?_
  refine s_aload_n 2 dX10_lost_93 rfl rfl ?_
  refine g_X10_7 (q := 1) rfl rfl dX10_lost_94 ?_
  refine s_call_v (s_runS (rest := []) (mX10_carry_3_1 l G M) ok_X10_carry k_X10_194 rfl rfl rfl rfl dX10_lost_97) fun r11 M12 => ?_
  refine s_iload 0 dX10_lost_100 rfl ?_
  refine s_ifeq (tgt := 109) dX10_lost_102 (by decide) ?_ ?_
  · refine s_aload_n 2 dX10_lost_109 rfl rfl ?_
    refine s_iconst (v := 2) dX10_lost_110 ci_2 ?_
    refine s_call_i (s_runV (ci := 10) (rest := []) rfl rfl (mX10_error l G (2 : Int32) M12) ok_X10_error k_X10_75 rfl rfl rfl rfl dX10_lost_111) fun r13 M14 => ?_
    exact s_sub [] rfl (tX10_lost_B114 l G r13 M14)
  · refine s_iload_n 1 dX10_lost_105 rfl rfl ?_
    refine s_goto (tgt := 114) dX10_lost_106 (by decide) ?_
    exact s_sub [] rfl (tX10_lost_B114 l G v3 M12)
def fX10_lost_B73 (v3 : Int32) (v1 : Int32) (M : Mm) : Option (Int32 × Mm) :=
  bd (fX10_sees v1 M) fun r9 M10 =>
  if (3 : Int32) ≤ r9 then (fX10_lost_B87 v3 (0 : Int32) M10)
  else fX10_lost_B87 v3 (1 : Int32) M10
theorem tX10_lost_B73 (l : Launch) (G : Gx) (v3 : Int32) (v1 : Int32) (M : Mm) : Sim cQi l layM G 7 cX10_lost RX10 5 (some .int) 73 [(3, .int v3), (0, rf G 0), (1, .int v1)] [] M (fX10_lost_B73 v3 v1 M) := by
  unfold fX10_lost_B73
  refine s_aload_n 1 dX10_lost_73 rfl rfl ?_
  refine s_iload_n 2 dX10_lost_74 rfl rfl ?_
  refine s_call_i (s_runV (ci := 10) (rest := []) rfl rfl (mX10_sees l G v1 M) ok_X10_sees k_X10_159 rfl rfl rfl rfl dX10_lost_75) fun r9 M10 => ?_
  refine s_iconst (v := 3) dX10_lost_78 ci_3 ?_
  refine s_icmpge (tgt := 86) dX10_lost_79 (by decide) ?_ ?_
  · refine s_iconst (v := 0) dX10_lost_86 ci_0 ?_
    exact s_sub [0, 1] rfl (tX10_lost_B87 l G v3 (0 : Int32) M10)
  · refine s_iconst (v := 1) dX10_lost_82 ci_1 ?_
    refine s_goto (tgt := 87) dX10_lost_83 (by decide) ?_
    exact s_sub [0, 1] rfl (tX10_lost_B87 l G v3 (1 : Int32) M10)
def fX10_lost_L45b (v2 : Int32) (v1 : Int32) (q45 : Int32 → Mm → Option (Int32 × Mm)) (v3 : Int32) (M : Mm) : Option (Int32 × Mm) :=
  if (99 : Int32) ≤ v3 then (fX10_lost_B73 v3 v1 M)
  else bd (fX10_sees v1 M) fun r15 M16 =>
  if r15 < (3 : Int32) then (fX10_lost_B73 v3 v1 M16)
  else bd (fX10_sheet1 v2 M16) fun r17 M18 =>
  q45 (v3 + 1) M18
def fX10_lost_L45 (v2 : Int32) (v1 : Int32) : Nat → Int32 → Mm → Option (Int32 × Mm)
  | 0 => fun _ _ => none
  | n + 1 => fX10_lost_L45b v2 v1 (fX10_lost_L45 v2 v1 n)
theorem tX10_lost_L45b (l : Launch) (G : Gx) (v2 : Int32) (v1 : Int32) (q45 : Int32 → Mm → Option (Int32 × Mm)) (hq45 : ∀ (v3 : Int32) (M : Mm), Sim cQi l layM G 7 cX10_lost RX10 5 (some .int) 45 [(3, .int v3), (2, .int v2), (0, rf G 0), (1, .int v1)] [] M (q45 v3 M)) (v3 : Int32) (M : Mm) : Sim cQi l layM G 7 cX10_lost RX10 5 (some .int) 45 [(3, .int v3), (2, .int v2), (0, rf G 0), (1, .int v1)] [] M (fX10_lost_L45b v2 v1 q45 v3 M) := by
  unfold fX10_lost_L45b
  refine s_iload_n 0 dX10_lost_45 rfl rfl ?_
  refine s_bipush (v := 99) dX10_lost_46 cb_99 ?_
  refine s_icmpge (tgt := 73) dX10_lost_48 (by decide) ?_ ?_
  · exact s_sub [0, 2, 3] rfl (tX10_lost_B73 l G v3 v1 M)
  · refine s_aload_n 2 dX10_lost_51 rfl rfl ?_
    refine s_iload_n 3 dX10_lost_52 rfl rfl ?_
    refine s_call_i (s_runV (ci := 10) (rest := []) rfl rfl (mX10_sees l G v1 M) ok_X10_sees k_X10_159 rfl rfl rfl rfl dX10_lost_53) fun r15 M16 => ?_
    refine s_iconst (v := 3) dX10_lost_56 ci_3 ?_
    refine s_icmplt (tgt := 73) dX10_lost_57 (by decide) ?_ ?_
    · exact s_sub [0, 2, 3] rfl (tX10_lost_B73 l G v3 v1 M16)
    · refine s_aload_n 2 dX10_lost_60 rfl rfl ?_
      refine s_iload_n 1 dX10_lost_61 rfl rfl ?_
      refine s_call_i (s_runV (ci := 10) (rest := []) rfl rfl (mX10_sheet1 l G v2 M16) ok_X10_sheet1 k_X10_191 rfl rfl rfl rfl dX10_lost_62) fun r17 M18 => ?_
      refine s_istore (lv' := [(4, .int r17), (3, .int v3), (2, .int v2), (0, rf G 0), (1, .int v1)]) dX10_lost_65 rfl rfl ?_
      refine s_iinc (k := 1) (lv' := [(3, .int (v3 + 1)), (4, .int r17), (2, .int v2), (0, rf G 0), (1, .int v1)]) dX10_lost_67 rfl ci_1 rfl rfl ?_
      refine s_goto (tgt := 45) dX10_lost_70 (by decide) ?_
      exact s_sub [0, 2, 3, 4] rfl (hq45 (v3 + 1) M18)
theorem tX10_lost_L45 (l : Launch) (G : Gx) (v2 : Int32) (v1 : Int32) : ∀ (n : Nat) (v3 : Int32) (M : Mm), Sim cQi l layM G 7 cX10_lost RX10 5 (some .int) 45 [(3, .int v3), (2, .int v2), (0, rf G 0), (1, .int v1)] [] M (fX10_lost_L45 v2 v1 n v3 M)
  | 0, _, _ => s_none
  | n + 1, v3, M => tX10_lost_L45b l G v2 v1 _ (tX10_lost_L45 l G v2 v1 n) v3 M
def fX10_lost (a1 : Int32) (M : Mm) : Option (Int32 × Mm) :=
  bd (fX10_isLetter a1 M) fun r1 M2 =>
  if r1 = true then (bd (fX10_its a1 (5 : Int32) M2) fun r5 M6 =>
  if r5 = (-1 : Int32) then (bd (fX10_error (3 : Int32) M6) fun r19 M20 =>
  some (r19, M20))
  else bd (fX10_carry_1_3 M6) fun r7 M8 =>
  fX10_lost_L45 r5 a1 FU (0 : Int32) M8)
  else bd (fX10_error (1 : Int32) M2) fun r3 M4 =>
  some (r3, M4)
theorem mX10_lost (l : Launch) (G : Gx) (a1 : Int32) (M : Mm) : Mt cQi l layM G 7 yX10_lost cX10_lost 5 (some .int) [rf G 0, .int a1] M (fX10_lost a1 M) := by
  refine Mt.of2 (own := RX10) (lv := [(0, rf G 0), (1, .int a1)]) rfl (by decide +kernel) rfl rfl ?_
  unfold fX10_lost
  refine s_aload_n 0 dX10_lost_0 rfl rfl ?_
  refine s_iload_n 1 dX10_lost_1 rfl rfl ?_
  refine s_call_z (s_runV (ci := 10) (rest := []) rfl rfl (mX10_isLetter l G a1 M) ok_X10_isLetter k_X10_162 rfl rfl rfl rfl dX10_lost_2) fun r1 M2 => ?_
  refine s_ifneB (tgt := 14) dX10_lost_5 (by decide) ?_ ?_
  · refine s_aload_n 0 dX10_lost_14 rfl rfl ?_
    refine s_iload_n 1 dX10_lost_15 rfl rfl ?_
    refine s_iconst (v := 5) dX10_lost_16 ci_5 ?_
    refine s_call_i (s_runV (ci := 10) (rest := []) rfl rfl (mX10_its l G a1 (5 : Int32) M2) ok_X10_its k_X10_137 rfl rfl rfl rfl dX10_lost_17) fun r5 M6 => ?_
    refine s_istore_n (lv' := [(2, .int r5), (0, rf G 0), (1, .int a1)]) dX10_lost_20 rfl rfl rfl ?_
    refine s_iload_n 0 dX10_lost_21 rfl rfl ?_
    refine s_iconst (v := -1) dX10_lost_22 ci_m1 ?_
    refine s_icmpne (tgt := 32) dX10_lost_23 (by decide) ?_ ?_
    · refine s_aload_n 1 dX10_lost_32 rfl rfl ?_
      refine g_X10_7 (q := 1) rfl rfl dX10_lost_33 ?_
      refine s_aload_n 1 dX10_lost_36 rfl rfl ?_
      refine g_X10_16 (q := 3) rfl rfl dX10_lost_37 ?_
      refine s_call_v (s_runS (rest := []) (mX10_carry_1_3 l G M6) ok_X10_carry k_X10_194 rfl rfl rfl rfl dX10_lost_40) fun r7 M8 => ?_
      refine s_iconst (v := 0) dX10_lost_43 ci_0 ?_
      refine s_istore_n (lv' := [(3, .int (0 : Int32)), (2, .int r5), (0, rf G 0), (1, .int a1)]) dX10_lost_44 rfl rfl rfl ?_
      exact s_sub [0, 1, 2, 3] rfl (tX10_lost_L45 l G r5 a1 FU (0 : Int32) M8)
    · refine s_aload_n 1 dX10_lost_26 rfl rfl ?_
      refine s_iconst (v := 3) dX10_lost_27 ci_3 ?_
      refine s_call_i (s_runV (ci := 10) (rest := []) rfl rfl (mX10_error l G (3 : Int32) M6) ok_X10_error k_X10_75 rfl rfl rfl rfl dX10_lost_28) fun r19 M20 => ?_
      exact s_iret rfl dX10_lost_31
  · refine s_aload_n 0 dX10_lost_8 rfl rfl ?_
    refine s_iconst (v := 1) dX10_lost_9 ci_1 ?_
    refine s_call_i (s_runV (ci := 10) (rest := []) rfl rfl (mX10_error l G (1 : Int32) M2) ok_X10_error k_X10_75 rfl rfl rfl rfl dX10_lost_10) fun r3 M4 => ?_
    exact s_iret rfl dX10_lost_13
theorem dX10_then_0 : decode cX10_then 0 = .ok (.aload_n 0, 1) := by decide +kernel
theorem dX10_then_1 : decode cX10_then 1 = .ok (.iload_n 1, 1) := by decide +kernel
theorem dX10_then_2 : decode cX10_then 2 = .ok (.invokevirtual 162, 3) := by decide +kernel
theorem dX10_then_5 : decode cX10_then 5 = .ok (.ifCond .eq 20, 3) := by decide +kernel
theorem dX10_then_8 : decode cX10_then 8 = .ok (.iload_n 2, 1) := by decide +kernel
theorem dX10_then_9 : decode cX10_then 9 = .ok (.invokestatic 198, 3) := by decide +kernel
theorem dX10_then_12 : decode cX10_then 12 = .ok (.ifCond .eq 13, 3) := by decide +kernel
theorem dX10_then_15 : decode cX10_then 15 = .ok (.iload_n 3, 1) := by decide +kernel
theorem dX10_then_16 : decode cX10_then 16 = .ok (.iconst 0, 1) := by decide +kernel
theorem dX10_then_17 : decode cX10_then 17 = .ok (.bipush 9, 2) := by decide +kernel
theorem dX10_then_19 : decode cX10_then 19 = .ok (.invokestatic 59, 3) := by decide +kernel
theorem dX10_then_22 : decode cX10_then 22 = .ok (.ifCond .ne 9, 3) := by decide +kernel
theorem dX10_then_25 : decode cX10_then 25 = .ok (.aload_n 0, 1) := by decide +kernel
theorem dX10_then_26 : decode cX10_then 26 = .ok (.iconst 1, 1) := by decide +kernel
theorem dX10_then_27 : decode cX10_then 27 = .ok (.invokevirtual 75, 3) := by decide +kernel
theorem dX10_then_30 : decode cX10_then 30 = .ok (.ireturn, 1) := by decide +kernel
theorem dX10_then_31 : decode cX10_then 31 = .ok (.aload_n 0, 1) := by decide +kernel
theorem dX10_then_32 : decode cX10_then 32 = .ok (.iload_n 1, 1) := by decide +kernel
theorem dX10_then_33 : decode cX10_then 33 = .ok (.iconst 5, 1) := by decide +kernel
theorem dX10_then_34 : decode cX10_then 34 = .ok (.invokevirtual 137, 3) := by decide +kernel
theorem dX10_then_37 : decode cX10_then 37 = .ok (.iconst (-1), 1) := by decide +kernel
theorem dX10_then_38 : decode cX10_then 38 = .ok (.if_icmp .ne 9, 3) := by decide +kernel
theorem dX10_then_41 : decode cX10_then 41 = .ok (.aload_n 0, 1) := by decide +kernel
theorem dX10_then_42 : decode cX10_then 42 = .ok (.iconst 3, 1) := by decide +kernel
theorem dX10_then_43 : decode cX10_then 43 = .ok (.invokevirtual 75, 3) := by decide +kernel
theorem dX10_then_46 : decode cX10_then 46 = .ok (.ireturn, 1) := by decide +kernel
theorem dX10_then_47 : decode cX10_then 47 = .ok (.aload_n 0, 1) := by decide +kernel
theorem dX10_then_48 : decode cX10_then 48 = .ok (.getfield 7, 3) := by decide +kernel
theorem dX10_then_51 : decode cX10_then 51 = .ok (.aload_n 0, 1) := by decide +kernel
theorem dX10_then_52 : decode cX10_then 52 = .ok (.getfield 16, 3) := by decide +kernel
theorem dX10_then_55 : decode cX10_then 55 = .ok (.invokestatic 194, 3) := by decide +kernel
theorem dX10_then_58 : decode cX10_then 58 = .ok (.iconst 0, 1) := by decide +kernel
theorem dX10_then_59 : decode cX10_then 59 = .ok (.istore 4, 2) := by decide +kernel
theorem dX10_then_61 : decode cX10_then 61 = .ok (.iload 4, 2) := by decide +kernel
theorem dX10_then_63 : decode cX10_then 63 = .ok (.iload_n 2, 1) := by decide +kernel
theorem dX10_then_64 : decode cX10_then 64 = .ok (.if_icmp .ge 21, 3) := by decide +kernel
theorem dX10_then_67 : decode cX10_then 67 = .ok (.aload_n 0, 1) := by decide +kernel
theorem dX10_then_68 : decode cX10_then 68 = .ok (.aload_n 0, 1) := by decide +kernel
theorem dX10_then_69 : decode cX10_then 69 = .ok (.iload_n 1, 1) := by decide +kernel
theorem dX10_then_70 : decode cX10_then 70 = .ok (.iconst 5, 1) := by decide +kernel
theorem dX10_then_71 : decode cX10_then 71 = .ok (.invokevirtual 137, 3) := by decide +kernel
theorem dX10_then_74 : decode cX10_then 74 = .ok (.invokevirtual 191, 3) := by decide +kernel
theorem dX10_then_77 : decode cX10_then 77 = .ok (.istore 5, 2) := by decide +kernel
theorem dX10_then_79 : decode cX10_then 79 = .ok (.iinc 4 1, 3) := by decide +kernel
theorem dX10_then_82 : decode cX10_then 82 = .ok (.goto (-21), 3) := by decide +kernel
theorem dX10_then_85 : decode cX10_then 85 = .ok (.aload_n 0, 1) := by decide +kernel
theorem dX10_then_86 : decode cX10_then 86 = .ok (.iload_n 1, 1) := by decide +kernel
theorem dX10_then_87 : decode cX10_then 87 = .ok (.iload_n 3, 1) := by decide +kernel
theorem dX10_then_88 : decode cX10_then 88 = .ok (.invokevirtual 165, 3) := by decide +kernel
theorem dX10_then_91 : decode cX10_then 91 = .ok (.istore 4, 2) := by decide +kernel
theorem dX10_then_93 : decode cX10_then 93 = .ok (.aload_n 0, 1) := by decide +kernel
theorem dX10_then_94 : decode cX10_then 94 = .ok (.getfield 16, 3) := by decide +kernel
theorem dX10_then_97 : decode cX10_then 97 = .ok (.aload_n 0, 1) := by decide +kernel
theorem dX10_then_98 : decode cX10_then 98 = .ok (.getfield 7, 3) := by decide +kernel
theorem dX10_then_101 : decode cX10_then 101 = .ok (.invokestatic 194, 3) := by decide +kernel
theorem dX10_then_104 : decode cX10_then 104 = .ok (.iload 4, 2) := by decide +kernel
theorem dX10_then_106 : decode cX10_then 106 = .ok (.ireturn, 1) := by decide +kernel
def fX10_then_B25 (M : Mm) : Option (Int32 × Mm) :=
  bd (fX10_error (1 : Int32) M) fun r7 M8 =>
  some (r7, M8)
theorem tX10_then_B25 (l : Launch) (G : Gx) (M : Mm) : Sim cQi l layM G 7 cX10_then RX10 6 (some .int) 25 [(0, rf G 0)] [] M (fX10_then_B25 M) := by
  unfold fX10_then_B25
  refine s_aload_n 0 dX10_then_25 rfl rfl ?_
  refine s_iconst (v := 1) dX10_then_26 ci_1 ?_
  refine s_call_i (s_runV (ci := 10) (rest := []) rfl rfl (mX10_error l G (1 : Int32) M) ok_X10_error k_X10_75 rfl rfl rfl rfl dX10_then_27) fun r7 M8 => ?_
  exact s_iret rfl dX10_then_30
def fX10_then_B85 (v1 : Int32) (v3 : Int32) (M : Mm) : Option (Int32 × Mm) :=
  bd (fX10_toldLetter v1 v3 M) fun r13 M14 =>
  bd (fX10_carry_3_1 M14) fun r15 M16 =>
  some (r13, M16)
theorem tX10_then_B85 (l : Launch) (G : Gx) (v1 : Int32) (v3 : Int32) (M : Mm) : Sim cQi l layM G 7 cX10_then RX10 6 (some .int) 85 [(0, rf G 0), (1, .int v1), (3, .int v3)] [] M (fX10_then_B85 v1 v3 M) := by
  unfold fX10_then_B85
  refine s_aload_n 0 dX10_then_85 rfl rfl ?_
  refine s_iload_n 1 dX10_then_86 rfl rfl ?_
  refine s_iload_n 2 dX10_then_87 rfl rfl ?_
  refine s_call_i (s_runV (ci := 10) (rest := []) rfl rfl (mX10_toldLetter l G v1 v3 M) ok_X10_toldLetter k_X10_165 rfl rfl rfl rfl dX10_then_88) fun r13 M14 => ?_
  refine s_istore (lv' := [(4, .int r13), (0, rf G 0), (1, .int v1), (3, .int v3)]) dX10_then_91 rfl rfl ?_
  refine s_aload_n 1 dX10_then_93 rfl rfl ?_
  refine g_X10_16 (q := 3) rfl rfl dX10_then_94 ?_
  refine s_aload_n 1 dX10_then_97 rfl rfl ?_
  refine g_X10_7 (q := 1) rfl rfl dX10_then_98 ?_
  refine s_call_v (s_runS (rest := []) (mX10_carry_3_1 l G M14) ok_X10_carry k_X10_194 rfl rfl rfl rfl dX10_then_101) fun r15 M16 => ?_
  refine s_iload 0 dX10_then_104 rfl ?_
  exact s_iret rfl dX10_then_106
def fX10_then_L61b (v1 : Int32) (v2 : Int32) (v3 : Int32) (q61 : Int32 → Mm → Option (Int32 × Mm)) (v4 : Int32) (M : Mm) : Option (Int32 × Mm) :=
  if v2 ≤ v4 then (fX10_then_B85 v1 v3 M)
  else bd (fX10_its v1 (5 : Int32) M) fun r17 M18 =>
  bd (fX10_sheet1 r17 M18) fun r19 M20 =>
  q61 (v4 + 1) M20
def fX10_then_L61 (v1 : Int32) (v2 : Int32) (v3 : Int32) : Nat → Int32 → Mm → Option (Int32 × Mm)
  | 0 => fun _ _ => none
  | n + 1 => fX10_then_L61b v1 v2 v3 (fX10_then_L61 v1 v2 v3 n)
theorem tX10_then_L61b (l : Launch) (G : Gx) (v1 : Int32) (v2 : Int32) (v3 : Int32) (q61 : Int32 → Mm → Option (Int32 × Mm)) (hq61 : ∀ (v4 : Int32) (M : Mm), Sim cQi l layM G 7 cX10_then RX10 6 (some .int) 61 [(4, .int v4), (0, rf G 0), (1, .int v1), (2, .int v2), (3, .int v3)] [] M (q61 v4 M)) (v4 : Int32) (M : Mm) : Sim cQi l layM G 7 cX10_then RX10 6 (some .int) 61 [(4, .int v4), (0, rf G 0), (1, .int v1), (2, .int v2), (3, .int v3)] [] M (fX10_then_L61b v1 v2 v3 q61 v4 M) := by
  unfold fX10_then_L61b
  refine s_iload 0 dX10_then_61 rfl ?_
  refine s_iload_n 3 dX10_then_63 rfl rfl ?_
  refine s_icmpge (tgt := 85) dX10_then_64 (by decide) ?_ ?_
  · exact s_sub [1, 2, 4] rfl (tX10_then_B85 l G v1 v3 M)
  · refine s_aload_n 1 dX10_then_67 rfl rfl ?_
    refine s_aload_n 1 dX10_then_68 rfl rfl ?_
    refine s_iload_n 2 dX10_then_69 rfl rfl ?_
    refine s_iconst (v := 5) dX10_then_70 ci_5 ?_
    refine s_call_i (s_runV (ci := 10) (rest := [rf G 0]) rfl rfl (mX10_its l G v1 (5 : Int32) M) ok_X10_its k_X10_137 rfl rfl rfl rfl dX10_then_71) fun r17 M18 => ?_
    refine s_call_i (s_runV (ci := 10) (rest := []) rfl rfl (mX10_sheet1 l G r17 M18) ok_X10_sheet1 k_X10_191 rfl rfl rfl rfl dX10_then_74) fun r19 M20 => ?_
    refine s_istore (lv' := [(5, .int r19), (4, .int v4), (0, rf G 0), (1, .int v1), (2, .int v2), (3, .int v3)]) dX10_then_77 rfl rfl ?_
    refine s_iinc (k := 1) (lv' := [(4, .int (v4 + 1)), (5, .int r19), (0, rf G 0), (1, .int v1), (2, .int v2), (3, .int v3)]) dX10_then_79 rfl ci_1 rfl rfl ?_
    refine s_goto (tgt := 61) dX10_then_82 (by decide) ?_
    exact s_sub [0, 2, 3, 4, 5] rfl (hq61 (v4 + 1) M20)
theorem tX10_then_L61 (l : Launch) (G : Gx) (v1 : Int32) (v2 : Int32) (v3 : Int32) : ∀ (n : Nat) (v4 : Int32) (M : Mm), Sim cQi l layM G 7 cX10_then RX10 6 (some .int) 61 [(4, .int v4), (0, rf G 0), (1, .int v1), (2, .int v2), (3, .int v3)] [] M (fX10_then_L61 v1 v2 v3 n v4 M)
  | 0, _, _ => s_none
  | n + 1, v4, M => tX10_then_L61b l G v1 v2 v3 _ (tX10_then_L61 l G v1 v2 v3 n) v4 M
def fX10_then (a1 : Int32) (a2 : Int32) (a3 : Int32) (M : Mm) : Option (Int32 × Mm) :=
  bd (fX10_isLetter a1 M) fun r1 M2 =>
  if r1 = true then (bd (fX10_isAhead a2 M2) fun r3 M4 =>
  if r3 = true then (bd (fX10_in a3 (0 : Int32) (9 : Int32) M4) fun r5 M6 =>
  if r5 = true then (bd (fX10_its a1 (5 : Int32) M6) fun r9 M10 =>
  if r9 = (-1 : Int32) then (bd (fX10_error (3 : Int32) M10) fun r21 M22 =>
  some (r21, M22))
  else bd (fX10_carry_1_3 M10) fun r11 M12 =>
  fX10_then_L61 a1 a2 a3 FU (0 : Int32) M12)
  else fX10_then_B25 M6)
  else fX10_then_B25 M4)
  else fX10_then_B25 M2
theorem mX10_then (l : Launch) (G : Gx) (a1 : Int32) (a2 : Int32) (a3 : Int32) (M : Mm) : Mt cQi l layM G 7 yX10_then cX10_then 6 (some .int) [rf G 0, .int a1, .int a2, .int a3] M (fX10_then a1 a2 a3 M) := by
  refine Mt.of2 (own := RX10) (lv := [(0, rf G 0), (1, .int a1), (2, .int a2), (3, .int a3)]) rfl (by decide +kernel) rfl rfl ?_
  unfold fX10_then
  refine s_aload_n 0 dX10_then_0 rfl rfl ?_
  refine s_iload_n 1 dX10_then_1 rfl rfl ?_
  refine s_call_z (s_runV (ci := 10) (rest := []) rfl rfl (mX10_isLetter l G a1 M) ok_X10_isLetter k_X10_162 rfl rfl rfl rfl dX10_then_2) fun r1 M2 => ?_
  refine s_ifeqB (tgt := 25) dX10_then_5 (by decide) ?_ ?_
  · exact s_sub [0] rfl (tX10_then_B25 l G M2)
  · refine s_iload_n 2 dX10_then_8 rfl rfl ?_
    refine s_call_z (s_runS (rest := []) (mX10_isAhead l G a2 M2) ok_X10_isAhead k_X10_198 rfl rfl rfl rfl dX10_then_9) fun r3 M4 => ?_
    refine s_ifeqB (tgt := 25) dX10_then_12 (by decide) ?_ ?_
    · exact s_sub [0] rfl (tX10_then_B25 l G M4)
    · refine s_iload_n 3 dX10_then_15 rfl rfl ?_
      refine s_iconst (v := 0) dX10_then_16 ci_0 ?_
      refine s_bipush (v := 9) dX10_then_17 cb_9 ?_
      refine s_call_z (s_runS (rest := []) (mX10_in l G a3 (0 : Int32) (9 : Int32) M4) ok_X10_in k_X10_59 rfl rfl rfl rfl dX10_then_19) fun r5 M6 => ?_
      refine s_ifneB (tgt := 31) dX10_then_22 (by decide) ?_ ?_
      · refine s_aload_n 0 dX10_then_31 rfl rfl ?_
        refine s_iload_n 1 dX10_then_32 rfl rfl ?_
        refine s_iconst (v := 5) dX10_then_33 ci_5 ?_
        refine s_call_i (s_runV (ci := 10) (rest := []) rfl rfl (mX10_its l G a1 (5 : Int32) M6) ok_X10_its k_X10_137 rfl rfl rfl rfl dX10_then_34) fun r9 M10 => ?_
        refine s_iconst (v := -1) dX10_then_37 ci_m1 ?_
        refine s_icmpne (tgt := 47) dX10_then_38 (by decide) ?_ ?_
        · refine s_aload_n 0 dX10_then_47 rfl rfl ?_
          refine g_X10_7 (q := 1) rfl rfl dX10_then_48 ?_
          refine s_aload_n 0 dX10_then_51 rfl rfl ?_
          refine g_X10_16 (q := 3) rfl rfl dX10_then_52 ?_
          refine s_call_v (s_runS (rest := []) (mX10_carry_1_3 l G M10) ok_X10_carry k_X10_194 rfl rfl rfl rfl dX10_then_55) fun r11 M12 => ?_
          refine s_iconst (v := 0) dX10_then_58 ci_0 ?_
          refine s_istore (lv' := [(4, .int (0 : Int32)), (0, rf G 0), (1, .int a1), (2, .int a2), (3, .int a3)]) dX10_then_59 rfl rfl ?_
          exact s_sub [0, 1, 2, 3, 4] rfl (tX10_then_L61 l G a1 a2 a3 FU (0 : Int32) M12)
        · refine s_aload_n 0 dX10_then_41 rfl rfl ?_
          refine s_iconst (v := 3) dX10_then_42 ci_3 ?_
          refine s_call_i (s_runV (ci := 10) (rest := []) rfl rfl (mX10_error l G (3 : Int32) M10) ok_X10_error k_X10_75 rfl rfl rfl rfl dX10_then_43) fun r21 M22 => ?_
          exact s_iret rfl dX10_then_46
      · exact s_sub [0] rfl (tX10_then_B25 l G M6)
