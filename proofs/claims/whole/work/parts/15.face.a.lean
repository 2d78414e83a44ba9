theorem dX9_refuse_0 : decode cX9_refuse 0 = .ok (.ldc_w 315, 3) := by decide +kernel
theorem dX9_refuse_3 : decode cX9_refuse 3 = .ok (.iload_n 1, 1) := by decide +kernel
theorem dX9_refuse_4 : decode cX9_refuse 4 = .ok (.isub, 1) := by decide +kernel
theorem dX9_refuse_5 : decode cX9_refuse 5 = .ok (.istore_n 2, 1) := by decide +kernel
theorem dX9_refuse_6 : decode cX9_refuse 6 = .ok (.iload_n 2, 1) := by decide +kernel
theorem dX9_refuse_7 : decode cX9_refuse 7 = .ok (.iconst 1, 1) := by decide +kernel
theorem dX9_refuse_8 : decode cX9_refuse 8 = .ok (.bipush 6, 2) := by decide +kernel
theorem dX9_refuse_10 : decode cX9_refuse 10 = .ok (.invokestatic 83, 3) := by decide +kernel
theorem dX9_refuse_13 : decode cX9_refuse 13 = .ok (.ifCond .eq 13, 3) := by decide +kernel
theorem dX9_refuse_16 : decode cX9_refuse 16 = .ok (.aload_n 0, 1) := by decide +kernel
theorem dX9_refuse_17 : decode cX9_refuse 17 = .ok (.getfield 63, 3) := by decide +kernel
theorem dX9_refuse_20 : decode cX9_refuse 20 = .ok (.iload_n 2, 1) := by decide +kernel
theorem dX9_refuse_21 : decode cX9_refuse 21 = .ok (.dup2, 1) := by decide +kernel
theorem dX9_refuse_22 : decode cX9_refuse 22 = .ok (.iaload, 1) := by decide +kernel
theorem dX9_refuse_23 : decode cX9_refuse 23 = .ok (.iconst 1, 1) := by decide +kernel
theorem dX9_refuse_24 : decode cX9_refuse 24 = .ok (.iadd, 1) := by decide +kernel
theorem dX9_refuse_25 : decode cX9_refuse 25 = .ok (.iastore, 1) := by decide +kernel
theorem dX9_refuse_26 : decode cX9_refuse 26 = .ok (.iload_n 1, 1) := by decide +kernel
theorem dX9_refuse_27 : decode cX9_refuse 27 = .ok (.ireturn, 1) := by decide +kernel
def fX9_refuse_B26 (v1 : Int32) (M : Mm) : Option (Int32 × Mm) :=
  some (v1, M)
theorem tX9_refuse_B26 (l : Launch) (G : Gx) (v1 : Int32) (M : Mm) : Sim cQi l layC G 2 cX9_refuse RX9 3 (some .int) 26 [(1, .int v1)] [] M (fX9_refuse_B26 v1 M) := by
  unfold fX9_refuse_B26
  refine s_iload_n 0 dX9_refuse_26 rfl rfl ?_
  exact s_iret rfl dX9_refuse_27
def fX9_refuse (a1 : Int32) (M : Mm) : Option (Int32 × Mm) :=
  lt ((-1000000000 : Int32) - a1) fun x1 =>
  bd (fX9_isWithin x1 (1 : Int32) (6 : Int32) M) fun r2 M3 =>
  if r2 = true then (gd (inb x1 7) <|
  lt (wr M3 172 (ix x1) ((M3 172 (ix x1)) + (1 : Int32))) fun M5 =>
  fX9_refuse_B26 a1 M5)
  else fX9_refuse_B26 a1 M3
theorem mX9_refuse (l : Launch) (G : Gx) (a1 : Int32) (M : Mm) : Mt cQi l layC G 2 yX9_refuse cX9_refuse 3 (some .int) [rf G 173, .int a1] M (fX9_refuse a1 M) := by
  refine Mt.of2 (own := RX9) (lv := [(0, rf G 173), (1, .int a1)]) rfl (by decide +kernel) rfl rfl ?_
  unfold fX9_refuse
  refine s_ldcw (v := -1000000000) dX9_refuse_0 q_401 ?_
  refine s_iload_n 1 dX9_refuse_3 rfl rfl ?_
  refine s_isub dX9_refuse_4 ?_
  refine s_leti fun x1 => ?_
  refine s_istore_n (lv' := [(2, .int x1), (0, rf G 173), (1, .int a1)]) dX9_refuse_5 rfl rfl rfl ?_
  refine s_iload_n 0 dX9_refuse_6 rfl rfl ?_
  refine s_iconst (v := 1) dX9_refuse_7 ci_1 ?_
  refine s_bipush (v := 6) dX9_refuse_8 cb_6 ?_
  refine s_call_z (s_runS (rest := []) (mX9_isWithin l G x1 (1 : Int32) (6 : Int32) M) ok_X9_isWithin k_X9_83 rfl rfl rfl rfl dX9_refuse_10) fun r2 M3 => ?_
  refine s_ifeqB (tgt := 26) dX9_refuse_13 (by decide) ?_ ?_
  · exact s_sub [2] rfl (tX9_refuse_B26 l G a1 M3)
  · refine s_aload_n 1 dX9_refuse_16 rfl rfl ?_
    refine g_X9_63 (q := 172) rfl rfl dX9_refuse_17 ?_
    refine s_iload_n 0 dX9_refuse_20 rfl rfl ?_
    refine s_dup2 dX9_refuse_21 rfl rfl ?_
    refine s_gd fun h4 => ?_
    refine s_iald (n := 7) rfl h4 dX9_refuse_22 ?_
    refine s_iconst (v := 1) dX9_refuse_23 ci_1 ?_
    refine s_iadd dX9_refuse_24 ?_
    refine s_iast (n := 7) rfl h4 dX9_refuse_25 ?_
    refine s_letM fun M5 => ?_
    exact s_sub [2] rfl (tX9_refuse_B26 l G a1 M5)
theorem dX9_cast_0 : decode cX9_cast 0 = .ok (.aload_n 0, 1) := by decide +kernel
theorem dX9_cast_1 : decode cX9_cast 1 = .ok (.getfield 12, 3) := by decide +kernel
theorem dX9_cast_4 : decode cX9_cast 4 = .ok (.iload_n 1, 1) := by decide +kernel
theorem dX9_cast_5 : decode cX9_cast 5 = .ok (.iload_n 2, 1) := by decide +kernel
theorem dX9_cast_6 : decode cX9_cast 6 = .ok (.iload_n 3, 1) := by decide +kernel
theorem dX9_cast_7 : decode cX9_cast 7 = .ok (.invokevirtual 68, 3) := by decide +kernel
theorem dX9_cast_10 : decode cX9_cast 10 = .ok (.istore 4, 2) := by decide +kernel
theorem dX9_cast_12 : decode cX9_cast 12 = .ok (.iload 4, 2) := by decide +kernel
theorem dX9_cast_14 : decode cX9_cast 14 = .ok (.ifCond .eq 12, 3) := by decide +kernel
theorem dX9_cast_17 : decode cX9_cast 17 = .ok (.aload_n 0, 1) := by decide +kernel
theorem dX9_cast_18 : decode cX9_cast 18 = .ok (.iload 4, 2) := by decide +kernel
theorem dX9_cast_20 : decode cX9_cast 20 = .ok (.invokevirtual 72, 3) := by decide +kernel
theorem dX9_cast_23 : decode cX9_cast 23 = .ok (.goto 13, 3) := by decide +kernel
theorem dX9_cast_26 : decode cX9_cast 26 = .ok (.aload_n 0, 1) := by decide +kernel
theorem dX9_cast_27 : decode cX9_cast 27 = .ok (.getfield 12, 3) := by decide +kernel
theorem dX9_cast_30 : decode cX9_cast 30 = .ok (.iload_n 1, 1) := by decide +kernel
theorem dX9_cast_31 : decode cX9_cast 31 = .ok (.iload_n 2, 1) := by decide +kernel
theorem dX9_cast_32 : decode cX9_cast 32 = .ok (.iload_n 3, 1) := by decide +kernel
theorem dX9_cast_33 : decode cX9_cast 33 = .ok (.invokevirtual 76, 3) := by decide +kernel
theorem dX9_cast_36 : decode cX9_cast 36 = .ok (.ireturn, 1) := by decide +kernel
def fX9_cast_B36 (w0 : Int32) (M : Mm) : Option (Int32 × Mm) :=
  some (w0, M)
theorem tX9_cast_B36 (l : Launch) (G : Gx) (w0 : Int32) (M : Mm) : Sim cQi l layC G 3 cX9_cast RX9 5 (some .int) 36 [] [.int w0] M (fX9_cast_B36 w0 M) := by
  unfold fX9_cast_B36
  exact s_iret rfl dX9_cast_36
def fX9_cast (a1 : Int32) (a2 : Int32) (a3 : Int32) (M : Mm) : Option (Int32 × Mm) :=
  bd (fX7_castError a1 a2 a3 M) fun r1 M2 =>
  if r1 = 0 then (bd (fX7_castLetter a1 a2 a3 M2) fun r3 M4 =>
  fX9_cast_B36 r3 M4)
  else bd (fX9_refuse r1 M2) fun r5 M6 =>
  fX9_cast_B36 r5 M6
theorem mX9_cast (l : Launch) (G : Gx) (a1 : Int32) (a2 : Int32) (a3 : Int32) (M : Mm) : Mt cQi l layC G 3 yX9_cast cX9_cast 5 (some .int) [rf G 173, .int a1, .int a2, .int a3] M (fX9_cast a1 a2 a3 M) := by
  refine Mt.of2 (own := RX9) (lv := [(0, rf G 173), (1, .int a1), (2, .int a2), (3, .int a3)]) rfl (by decide +kernel) rfl rfl ?_
  unfold fX9_cast
  refine s_aload_n 0 dX9_cast_0 rfl rfl ?_
  refine g_X9_12 (q := 0) rfl rfl dX9_cast_1 ?_
  refine s_iload_n 1 dX9_cast_4 rfl rfl ?_
  refine s_iload_n 2 dX9_cast_5 rfl rfl ?_
  refine s_iload_n 3 dX9_cast_6 rfl rfl ?_
  refine s_call_i (s_runV (ci := 7) (rest := []) rfl rfl (mX7_castError l G a1 a2 a3 M) ok_X7_castError k_X9_68 rfl rfl rfl rfl dX9_cast_7) fun r1 M2 => ?_
  refine s_istore (lv' := [(4, .int r1), (0, rf G 173), (1, .int a1), (2, .int a2), (3, .int a3)]) dX9_cast_10 rfl rfl ?_
  refine s_iload 0 dX9_cast_12 rfl ?_
  refine s_ifeq (tgt := 26) dX9_cast_14 (by decide) ?_ ?_
  · refine s_aload_n 1 dX9_cast_26 rfl rfl ?_
    refine g_X9_12 (q := 0) rfl rfl dX9_cast_27 ?_
    refine s_iload_n 2 dX9_cast_30 rfl rfl ?_
    refine s_iload_n 3 dX9_cast_31 rfl rfl ?_
    refine s_iload_n 4 dX9_cast_32 rfl rfl ?_
    refine s_call_i (s_runV (ci := 7) (rest := []) rfl rfl (mX7_castLetter l G a1 a2 a3 M2) ok_X7_castLetter k_X9_76 rfl rfl rfl rfl dX9_cast_33) fun r3 M4 => ?_
    exact s_sub [] rfl (tX9_cast_B36 l G r3 M4)
  · refine s_aload_n 1 dX9_cast_17 rfl rfl ?_
    refine s_iload 0 dX9_cast_18 rfl ?_
    refine s_call_i (s_runV (ci := 9) (rest := []) rfl rfl (mX9_refuse l G r1 M2) ok_X9_refuse k_X9_72 rfl rfl rfl rfl dX9_cast_20) fun r5 M6 => ?_
    refine s_goto (tgt := 36) dX9_cast_23 (by decide) ?_
    exact s_sub [] rfl (tX9_cast_B36 l G r5 M6)
theorem dX9_letterIs_0 : decode cX9_letterIs 0 = .ok (.aload_n 0, 1) := by decide +kernel
theorem dX9_letterIs_1 : decode cX9_letterIs 1 = .ok (.getfield 12, 3) := by decide +kernel
theorem dX9_letterIs_4 : decode cX9_letterIs 4 = .ok (.iload_n 1, 1) := by decide +kernel
theorem dX9_letterIs_5 : decode cX9_letterIs 5 = .ok (.invokevirtual 79, 3) := by decide +kernel
theorem dX9_letterIs_8 : decode cX9_letterIs 8 = .ok (.ifCond .eq 13, 3) := by decide +kernel
theorem dX9_letterIs_11 : decode cX9_letterIs 11 = .ok (.iload_n 2, 1) := by decide +kernel
theorem dX9_letterIs_12 : decode cX9_letterIs 12 = .ok (.iconst 0, 1) := by decide +kernel
theorem dX9_letterIs_13 : decode cX9_letterIs 13 = .ok (.bipush 9, 2) := by decide +kernel
theorem dX9_letterIs_15 : decode cX9_letterIs 15 = .ok (.invokestatic 83, 3) := by decide +kernel
theorem dX9_letterIs_18 : decode cX9_letterIs 18 = .ok (.ifCond .ne 10, 3) := by decide +kernel
theorem dX9_letterIs_21 : decode cX9_letterIs 21 = .ok (.aload_n 0, 1) := by decide +kernel
theorem dX9_letterIs_22 : decode cX9_letterIs 22 = .ok (.ldc 87, 2) := by decide +kernel
theorem dX9_letterIs_24 : decode cX9_letterIs 24 = .ok (.invokevirtual 72, 3) := by decide +kernel
theorem dX9_letterIs_27 : decode cX9_letterIs 27 = .ok (.ireturn, 1) := by decide +kernel
theorem dX9_letterIs_28 : decode cX9_letterIs 28 = .ok (.aload_n 0, 1) := by decide +kernel
theorem dX9_letterIs_29 : decode cX9_letterIs 29 = .ok (.getfield 12, 3) := by decide +kernel
theorem dX9_letterIs_32 : decode cX9_letterIs 32 = .ok (.getfield 88, 3) := by decide +kernel
theorem dX9_letterIs_35 : decode cX9_letterIs 35 = .ok (.iload_n 1, 1) := by decide +kernel
theorem dX9_letterIs_36 : decode cX9_letterIs 36 = .ok (.aaload, 1) := by decide +kernel
theorem dX9_letterIs_37 : decode cX9_letterIs 37 = .ok (.astore_n 3, 1) := by decide +kernel
theorem dX9_letterIs_38 : decode cX9_letterIs 38 = .ok (.aload_n 0, 1) := by decide +kernel
theorem dX9_letterIs_39 : decode cX9_letterIs 39 = .ok (.getfield 12, 3) := by decide +kernel
theorem dX9_letterIs_42 : decode cX9_letterIs 42 = .ok (.aload_n 3, 1) := by decide +kernel
theorem dX9_letterIs_43 : decode cX9_letterIs 43 = .ok (.aload_n 0, 1) := by decide +kernel
theorem dX9_letterIs_44 : decode cX9_letterIs 44 = .ok (.getfield 12, 3) := by decide +kernel
theorem dX9_letterIs_47 : decode cX9_letterIs 47 = .ok (.aload_n 3, 1) := by decide +kernel
theorem dX9_letterIs_48 : decode cX9_letterIs 48 = .ok (.invokevirtual 92, 3) := by decide +kernel
theorem dX9_letterIs_51 : decode cX9_letterIs 51 = .ok (.iload_n 2, 1) := by decide +kernel
theorem dX9_letterIs_52 : decode cX9_letterIs 52 = .ok (.invokevirtual 96, 3) := by decide +kernel
theorem dX9_letterIs_55 : decode cX9_letterIs 55 = .ok (.ireturn, 1) := by decide +kernel
def fX9_letterIs_B21 (M : Mm) : Option (Int32 × Mm) :=
  bd (fX9_refuse (-1000000001 : Int32) M) fun r5 M6 =>
  some (r5, M6)
theorem tX9_letterIs_B21 (l : Launch) (G : Gx) (M : Mm) : Sim cQi l layC G 5 cX9_letterIs RX9 4 (some .int) 21 [(0, rf G 173)] [] M (fX9_letterIs_B21 M) := by
  unfold fX9_letterIs_B21
  refine s_aload_n 0 dX9_letterIs_21 rfl rfl ?_
  refine s_ldc (v := -1000000001) dX9_letterIs_22 q_425 ?_
  refine s_call_i (s_runV (ci := 9) (rest := []) rfl rfl (mX9_refuse l G (-1000000001 : Int32) M) ok_X9_refuse k_X9_72 rfl rfl rfl rfl dX9_letterIs_24) fun r5 M6 => ?_
  exact s_iret rfl dX9_letterIs_27
def fX9_letterIs (a1 : Int32) (a2 : Int32) (M : Mm) : Option (Int32 × Mm) :=
  bd (fX7_hasLetter a1 M) fun r1 M2 =>
  if r1 = true then (bd (fX9_isWithin a2 (0 : Int32) (9 : Int32) M2) fun r3 M4 =>
  if r3 = true then (gd (inb a1 24) <|
  bd (fX7_sheetsAround (4 + 1 * ix a1) M4) fun r8 M9 =>
  bd (fX7_factOf (4 + 1 * ix a1) r8 a2 M9) fun r10 M11 =>
  some (r10, M11))
  else fX9_letterIs_B21 M4)
  else fX9_letterIs_B21 M2
theorem mX9_letterIs (l : Launch) (G : Gx) (a1 : Int32) (a2 : Int32) (M : Mm) : Mt cQi l layC G 5 yX9_letterIs cX9_letterIs 4 (some .int) [rf G 173, .int a1, .int a2] M (fX9_letterIs a1 a2 M) := by
  refine Mt.of2 (own := RX9) (lv := [(0, rf G 173), (1, .int a1), (2, .int a2)]) rfl (by decide +kernel) rfl rfl ?_
  unfold fX9_letterIs
  refine s_aload_n 0 dX9_letterIs_0 rfl rfl ?_
  refine g_X9_12 (q := 0) rfl rfl dX9_letterIs_1 ?_
  refine s_iload_n 1 dX9_letterIs_4 rfl rfl ?_
  refine s_call_z (s_runV (ci := 7) (rest := []) rfl rfl (mX7_hasLetter l G a1 M) ok_X7_hasLetter k_X9_79 rfl rfl rfl rfl dX9_letterIs_5) fun r1 M2 => ?_
  refine s_ifeqB (tgt := 21) dX9_letterIs_8 (by decide) ?_ ?_
  · exact s_sub [0] rfl (tX9_letterIs_B21 l G M2)
  · refine s_iload_n 2 dX9_letterIs_11 rfl rfl ?_
    refine s_iconst (v := 0) dX9_letterIs_12 ci_0 ?_
    refine s_bipush (v := 9) dX9_letterIs_13 cb_9 ?_
    refine s_call_z (s_runS (rest := []) (mX9_isWithin l G a2 (0 : Int32) (9 : Int32) M2) ok_X9_isWithin k_X9_83 rfl rfl rfl rfl dX9_letterIs_15) fun r3 M4 => ?_
    refine s_ifneB (tgt := 28) dX9_letterIs_18 (by decide) ?_ ?_
    · refine s_aload_n 0 dX9_letterIs_28 rfl rfl ?_
      refine g_X9_12 (q := 0) rfl rfl dX9_letterIs_29 ?_
      refine g_X9_88 (q := 3) rfl rfl dX9_letterIs_32 ?_
      refine s_iload_n 1 dX9_letterIs_35 rfl rfl ?_
      refine s_gd fun h7 => ?_
      refine s_aald (t := 1) (bs := 4) (sd := 1) (n := 24) rfl rfl h7 dX9_letterIs_36 ?_
      refine s_astore_n (lv' := [(3, rf G (4 + 1 * ix a1)), (0, rf G 173), (1, .int a1), (2, .int a2)]) dX9_letterIs_37 rfl rfl rfl ?_
      refine s_aload_n 1 dX9_letterIs_38 rfl rfl ?_
      refine g_X9_12 (q := 0) rfl rfl dX9_letterIs_39 ?_
      refine s_aload_n 0 dX9_letterIs_42 rfl rfl ?_
      refine s_aload_n 1 dX9_letterIs_43 rfl rfl ?_
      refine g_X9_12 (q := 0) rfl rfl dX9_letterIs_44 ?_
      refine s_aload_n 0 dX9_letterIs_47 rfl rfl ?_
      refine s_call_i (s_runV (ci := 7) (rest := [rf G (4 + 1 * ix a1), rf G 0]) rfl rfl (mX7_sheetsAround l G (4 + 1 * ix a1) M4) ok_X7_sheetsAround k_X9_92 rfl rfl rfl rfl dX9_letterIs_48) fun r8 M9 => ?_
      refine s_iload_n 3 dX9_letterIs_51 rfl rfl ?_
      refine s_call_i (s_runV (ci := 7) (rest := []) rfl rfl (mX7_factOf l G (4 + 1 * ix a1) r8 a2 M9) ok_X7_factOf k_X9_96 rfl rfl rfl rfl dX9_letterIs_52) fun r10 M11 => ?_
      exact s_iret rfl dX9_letterIs_55
    · exact s_sub [0] rfl (tX9_letterIs_B21 l G M4)
theorem dX9_as_0 : decode cX9_as 0 = .ok (.aload_n 0, 1) := by decide +kernel
theorem dX9_as_1 : decode cX9_as 1 = .ok (.getfield 12, 3) := by decide +kernel
theorem dX9_as_4 : decode cX9_as 4 = .ok (.iload_n 1, 1) := by decide +kernel
theorem dX9_as_5 : decode cX9_as 5 = .ok (.invokevirtual 79, 3) := by decide +kernel
theorem dX9_as_8 : decode cX9_as 8 = .ok (.ifCond .eq 13, 3) := by decide +kernel
theorem dX9_as_11 : decode cX9_as 11 = .ok (.iload_n 2, 1) := by decide +kernel
theorem dX9_as_12 : decode cX9_as 12 = .ok (.iconst 0, 1) := by decide +kernel
theorem dX9_as_13 : decode cX9_as 13 = .ok (.bipush 6, 2) := by decide +kernel
theorem dX9_as_15 : decode cX9_as 15 = .ok (.invokestatic 83, 3) := by decide +kernel
theorem dX9_as_18 : decode cX9_as 18 = .ok (.ifCond .ne 10, 3) := by decide +kernel
theorem dX9_as_21 : decode cX9_as 21 = .ok (.aload_n 0, 1) := by decide +kernel
theorem dX9_as_22 : decode cX9_as 22 = .ok (.ldc 87, 2) := by decide +kernel
theorem dX9_as_24 : decode cX9_as 24 = .ok (.invokevirtual 72, 3) := by decide +kernel
theorem dX9_as_27 : decode cX9_as 27 = .ok (.ireturn, 1) := by decide +kernel
theorem dX9_as_28 : decode cX9_as 28 = .ok (.aload_n 0, 1) := by decide +kernel
theorem dX9_as_29 : decode cX9_as 29 = .ok (.getfield 12, 3) := by decide +kernel
theorem dX9_as_32 : decode cX9_as 32 = .ok (.getfield 88, 3) := by decide +kernel
theorem dX9_as_35 : decode cX9_as 35 = .ok (.iload_n 1, 1) := by decide +kernel
theorem dX9_as_36 : decode cX9_as 36 = .ok (.aaload, 1) := by decide +kernel
theorem dX9_as_37 : decode cX9_as 37 = .ok (.astore_n 3, 1) := by decide +kernel
theorem dX9_as_38 : decode cX9_as 38 = .ok (.aload_n 3, 1) := by decide +kernel
theorem dX9_as_39 : decode cX9_as 39 = .ok (.iload_n 2, 1) := by decide +kernel
theorem dX9_as_40 : decode cX9_as 40 = .ok (.invokevirtual 100, 3) := by decide +kernel
theorem dX9_as_43 : decode cX9_as 43 = .ok (.ifCond .eq 10, 3) := by decide +kernel
theorem dX9_as_46 : decode cX9_as 46 = .ok (.aload_n 3, 1) := by decide +kernel
theorem dX9_as_47 : decode cX9_as 47 = .ok (.getfield 105, 3) := by decide +kernel
theorem dX9_as_50 : decode cX9_as 50 = .ok (.goto 9, 3) := by decide +kernel
theorem dX9_as_53 : decode cX9_as 53 = .ok (.aload_n 0, 1) := by decide +kernel
theorem dX9_as_54 : decode cX9_as 54 = .ok (.ldc 109, 2) := by decide +kernel
theorem dX9_as_56 : decode cX9_as 56 = .ok (.invokevirtual 72, 3) := by decide +kernel
theorem dX9_as_59 : decode cX9_as 59 = .ok (.ireturn, 1) := by decide +kernel
def fX9_as_B21 (M : Mm) : Option (Int32 × Mm) :=
  bd (fX9_refuse (-1000000001 : Int32) M) fun r5 M6 =>
  some (r5, M6)
theorem tX9_as_B21 (l : Launch) (G : Gx) (M : Mm) : Sim cQi l layC G 3 cX9_as RX9 4 (some .int) 21 [(0, rf G 173)] [] M (fX9_as_B21 M) := by
  unfold fX9_as_B21
  refine s_aload_n 0 dX9_as_21 rfl rfl ?_
  refine s_ldc (v := -1000000001) dX9_as_22 q_425 ?_
  refine s_call_i (s_runV (ci := 9) (rest := []) rfl rfl (mX9_refuse l G (-1000000001 : Int32) M) ok_X9_refuse k_X9_72 rfl rfl rfl rfl dX9_as_24) fun r5 M6 => ?_
  exact s_iret rfl dX9_as_27
def fX9_as_B59 (w0 : Int32) (M : Mm) : Option (Int32 × Mm) :=
  some (w0, M)
theorem tX9_as_B59 (l : Launch) (G : Gx) (w0 : Int32) (M : Mm) : Sim cQi l layC G 3 cX9_as RX9 4 (some .int) 59 [] [.int w0] M (fX9_as_B59 w0 M) := by
  unfold fX9_as_B59
  exact s_iret rfl dX9_as_59
def fX9_as (a1 : Int32) (a2 : Int32) (M : Mm) : Option (Int32 × Mm) :=
  bd (fX7_hasLetter a1 M) fun r1 M2 =>
  if r1 = true then (bd (fX9_isWithin a2 (0 : Int32) (6 : Int32) M2) fun r3 M4 =>
  if r3 = true then (gd (inb a1 24) <|
  gd (isC layC (4 + 1 * ix a1) 3) <|
  bd (fX3_isOf (4 + 1 * ix a1) a2 M4) fun r9 M10 =>
  if r9 = true then (fX9_as_B59 (M10 (4 + 1 * ix a1) 3) M10)
  else bd (fX9_refuse (-1000000005 : Int32) M10) fun r11 M12 =>
  fX9_as_B59 r11 M12)
  else fX9_as_B21 M4)
  else fX9_as_B21 M2
theorem mX9_as (l : Launch) (G : Gx) (a1 : Int32) (a2 : Int32) (M : Mm) : Mt cQi l layC G 3 yX9_as cX9_as 4 (some .int) [rf G 173, .int a1, .int a2] M (fX9_as a1 a2 M) := by
  refine Mt.of2 (own := RX9) (lv := [(0, rf G 173), (1, .int a1), (2, .int a2)]) rfl (by decide +kernel) rfl rfl ?_
  unfold fX9_as
  refine s_aload_n 0 dX9_as_0 rfl rfl ?_
  refine g_X9_12 (q := 0) rfl rfl dX9_as_1 ?_
  refine s_iload_n 1 dX9_as_4 rfl rfl ?_
  refine s_call_z (s_runV (ci := 7) (rest := []) rfl rfl (mX7_hasLetter l G a1 M) ok_X7_hasLetter k_X9_79 rfl rfl rfl rfl dX9_as_5) fun r1 M2 => ?_
  refine s_ifeqB (tgt := 21) dX9_as_8 (by decide) ?_ ?_
  · exact s_sub [0] rfl (tX9_as_B21 l G M2)
  · refine s_iload_n 2 dX9_as_11 rfl rfl ?_
    refine s_iconst (v := 0) dX9_as_12 ci_0 ?_
    refine s_bipush (v := 6) dX9_as_13 cb_6 ?_
    refine s_call_z (s_runS (rest := []) (mX9_isWithin l G a2 (0 : Int32) (6 : Int32) M2) ok_X9_isWithin k_X9_83 rfl rfl rfl rfl dX9_as_15) fun r3 M4 => ?_
    refine s_ifneB (tgt := 28) dX9_as_18 (by decide) ?_ ?_
    · refine s_aload_n 0 dX9_as_28 rfl rfl ?_
      refine g_X9_12 (q := 0) rfl rfl dX9_as_29 ?_
      refine g_X9_88 (q := 3) rfl rfl dX9_as_32 ?_
      refine s_iload_n 1 dX9_as_35 rfl rfl ?_
      refine s_gd fun h7 => ?_
      refine s_aald (t := 1) (bs := 4) (sd := 1) (n := 24) rfl rfl h7 dX9_as_36 ?_
      refine s_astore_n (lv' := [(3, rf G (4 + 1 * ix a1)), (0, rf G 173), (1, .int a1), (2, .int a2)]) dX9_as_37 rfl rfl rfl ?_
      refine s_aload_n 0 dX9_as_38 rfl rfl ?_
      refine s_iload_n 3 dX9_as_39 rfl rfl ?_
      refine s_gd fun h8 => ?_
      refine s_call_z (s_runV (ci := 3) (rest := []) h8 rfl (mX3_isOf l G (4 + 1 * ix a1) a2 M4) ok_X3_isOf k_X9_100 rfl rfl rfl rfl dX9_as_40) fun r9 M10 => ?_
      refine s_ifeqB (tgt := 53) dX9_as_43 (by decide) ?_ ?_
      · refine s_aload_n 1 dX9_as_53 rfl rfl ?_
        refine s_ldc (v := -1000000005) dX9_as_54 q_477 ?_
        refine s_call_i (s_runV (ci := 9) (rest := []) rfl rfl (mX9_refuse l G (-1000000005 : Int32) M10) ok_X9_refuse k_X9_72 rfl rfl rfl rfl dX9_as_56) fun r11 M12 => ?_
        exact s_sub [] rfl (tX9_as_B59 l G r11 M12)
      · refine s_aload_n 0 dX9_as_46 rfl rfl ?_
        refine g_X9_105 h8 dX9_as_47 ?_
        refine s_goto (tgt := 59) dX9_as_50 (by decide) ?_
        exact s_sub [] rfl (tX9_as_B59 l G (M10 (4 + 1 * ix a1) 3) M10)
    · exact s_sub [0] rfl (tX9_as_B21 l G M4)
theorem dX9_set_0 : decode cX9_set 0 = .ok (.aload_n 0, 1) := by decide +kernel
theorem dX9_set_1 : decode cX9_set 1 = .ok (.getfield 12, 3) := by decide +kernel
theorem dX9_set_4 : decode cX9_set 4 = .ok (.iload_n 1, 1) := by decide +kernel
theorem dX9_set_5 : decode cX9_set 5 = .ok (.invokevirtual 79, 3) := by decide +kernel
theorem dX9_set_8 : decode cX9_set 8 = .ok (.ifCond .eq 15, 3) := by decide +kernel
theorem dX9_set_11 : decode cX9_set 11 = .ok (.iload_n 3, 1) := by decide +kernel
theorem dX9_set_12 : decode cX9_set 12 = .ok (.iconst 0, 1) := by decide +kernel
theorem dX9_set_13 : decode cX9_set 13 = .ok (.iload_n 2, 1) := by decide +kernel
theorem dX9_set_14 : decode cX9_set 14 = .ok (.invokestatic 110, 3) := by decide +kernel
theorem dX9_set_17 : decode cX9_set 17 = .ok (.invokestatic 83, 3) := by decide +kernel
theorem dX9_set_20 : decode cX9_set 20 = .ok (.ifCond .ne 10, 3) := by decide +kernel
theorem dX9_set_23 : decode cX9_set 23 = .ok (.aload_n 0, 1) := by decide +kernel
theorem dX9_set_24 : decode cX9_set 24 = .ok (.ldc 87, 2) := by decide +kernel
theorem dX9_set_26 : decode cX9_set 26 = .ok (.invokevirtual 72, 3) := by decide +kernel
theorem dX9_set_29 : decode cX9_set 29 = .ok (.ireturn, 1) := by decide +kernel
theorem dX9_set_30 : decode cX9_set 30 = .ok (.aload_n 0, 1) := by decide +kernel
theorem dX9_set_31 : decode cX9_set 31 = .ok (.getfield 12, 3) := by decide +kernel
theorem dX9_set_34 : decode cX9_set 34 = .ok (.getfield 88, 3) := by decide +kernel
theorem dX9_set_37 : decode cX9_set 37 = .ok (.iload_n 1, 1) := by decide +kernel
theorem dX9_set_38 : decode cX9_set 38 = .ok (.aaload, 1) := by decide +kernel
theorem dX9_set_39 : decode cX9_set 39 = .ok (.iload_n 2, 1) := by decide +kernel
theorem dX9_set_40 : decode cX9_set 40 = .ok (.iload_n 3, 1) := by decide +kernel
theorem dX9_set_41 : decode cX9_set 41 = .ok (.invokevirtual 113, 3) := by decide +kernel
theorem dX9_set_44 : decode cX9_set 44 = .ok (.ireturn, 1) := by decide +kernel
def fX9_set_B23 (M : Mm) : Option (Int32 × Mm) :=
  bd (fX9_refuse (-1000000001 : Int32) M) fun r7 M8 =>
  some (r7, M8)
theorem tX9_set_B23 (l : Launch) (G : Gx) (M : Mm) : Sim cQi l layC G 3 cX9_set RX9 4 (some .int) 23 [(0, rf G 173)] [] M (fX9_set_B23 M) := by
  unfold fX9_set_B23
  refine s_aload_n 0 dX9_set_23 rfl rfl ?_
  refine s_ldc (v := -1000000001) dX9_set_24 q_425 ?_
  refine s_call_i (s_runV (ci := 9) (rest := []) rfl rfl (mX9_refuse l G (-1000000001 : Int32) M) ok_X9_refuse k_X9_72 rfl rfl rfl rfl dX9_set_26) fun r7 M8 => ?_
  exact s_iret rfl dX9_set_29
def fX9_set (a1 : Int32) (a2 : Int32) (a3 : Int32) (M : Mm) : Option (Int32 × Mm) :=
  bd (fX7_hasLetter a1 M) fun r1 M2 =>
  if r1 = true then (bd (fX9_mostToSet a2 M2) fun r3 M4 =>
  bd (fX9_isWithin a3 (0 : Int32) r3 M4) fun r5 M6 =>
  if r5 = true then (gd (inb a1 24) <|
  gd (isC layC (4 + 1 * ix a1) 3) <|
  bd (fX3_change (4 + 1 * ix a1) a2 a3 M6) fun r11 M12 =>
  some (r11, M12))
  else fX9_set_B23 M6)
  else fX9_set_B23 M2
theorem mX9_set (l : Launch) (G : Gx) (a1 : Int32) (a2 : Int32) (a3 : Int32) (M : Mm) : Mt cQi l layC G 3 yX9_set cX9_set 4 (some .int) [rf G 173, .int a1, .int a2, .int a3] M (fX9_set a1 a2 a3 M) := by
  refine Mt.of2 (own := RX9) (lv := [(0, rf G 173), (1, .int a1), (2, .int a2), (3, .int a3)]) rfl (by decide +kernel) rfl rfl ?_
  unfold fX9_set
  refine s_aload_n 0 dX9_set_0 rfl rfl ?_
  refine g_X9_12 (q := 0) rfl rfl dX9_set_1 ?_
  refine s_iload_n 1 dX9_set_4 rfl rfl ?_
  refine s_call_z (s_runV (ci := 7) (rest := []) rfl rfl (mX7_hasLetter l G a1 M) ok_X7_hasLetter k_X9_79 rfl rfl rfl rfl dX9_set_5) fun r1 M2 => ?_
  refine s_ifeqB (tgt := 23) dX9_set_8 (by decide) ?_ ?_
  · exact s_sub [0] rfl (tX9_set_B23 l G M2)
  · refine s_iload_n 3 dX9_set_11 rfl rfl ?_
    refine s_iconst (v := 0) dX9_set_12 ci_0 ?_
    refine s_iload_n 2 dX9_set_13 rfl rfl ?_
    refine s_call_i (s_runS (rest := [.int (0 : Int32), .int a3]) (mX9_mostToSet l G a2 M2) ok_X9_mostToSet k_X9_110 rfl rfl rfl rfl dX9_set_14) fun r3 M4 => ?_
    refine s_call_z (s_runS (rest := []) (mX9_isWithin l G a3 (0 : Int32) r3 M4) ok_X9_isWithin k_X9_83 rfl rfl rfl rfl dX9_set_17) fun r5 M6 => ?_
    refine s_ifneB (tgt := 30) dX9_set_20 (by decide) ?_ ?_
    · refine s_aload_n 0 dX9_set_30 rfl rfl ?_
      refine g_X9_12 (q := 0) rfl rfl dX9_set_31 ?_
      refine g_X9_88 (q := 3) rfl rfl dX9_set_34 ?_
      refine s_iload_n 1 dX9_set_37 rfl rfl ?_
      refine s_gd fun h9 => ?_
      refine s_aald (t := 1) (bs := 4) (sd := 1) (n := 24) rfl rfl h9 dX9_set_38 ?_
      refine s_iload_n 2 dX9_set_39 rfl rfl ?_
      refine s_iload_n 3 dX9_set_40 rfl rfl ?_
      refine s_gd fun h10 => ?_
      refine s_call_i (s_runV (ci := 3) (rest := []) h10 rfl (mX3_change l G (4 + 1 * ix a1) a2 a3 M6) ok_X3_change k_X9_113 rfl rfl rfl rfl dX9_set_41) fun r11 M12 => ?_
      exact s_iret rfl dX9_set_44
    · exact s_sub [0] rfl (tX9_set_B23 l G M6)
theorem dX9_melt_0 : decode cX9_melt 0 = .ok (.aload_n 0, 1) := by decide +kernel
theorem dX9_melt_1 : decode cX9_melt 1 = .ok (.getfield 12, 3) := by decide +kernel
theorem dX9_melt_4 : decode cX9_melt 4 = .ok (.iload_n 1, 1) := by decide +kernel
theorem dX9_melt_5 : decode cX9_melt 5 = .ok (.invokevirtual 79, 3) := by decide +kernel
theorem dX9_melt_8 : decode cX9_melt 8 = .ok (.ifCond .ne 10, 3) := by decide +kernel
theorem dX9_melt_11 : decode cX9_melt 11 = .ok (.aload_n 0, 1) := by decide +kernel
theorem dX9_melt_12 : decode cX9_melt 12 = .ok (.ldc 87, 2) := by decide +kernel
theorem dX9_melt_14 : decode cX9_melt 14 = .ok (.invokevirtual 72, 3) := by decide +kernel
theorem dX9_melt_17 : decode cX9_melt 17 = .ok (.ireturn, 1) := by decide +kernel
theorem dX9_melt_18 : decode cX9_melt 18 = .ok (.aload_n 0, 1) := by decide +kernel
theorem dX9_melt_19 : decode cX9_melt 19 = .ok (.getfield 12, 3) := by decide +kernel
theorem dX9_melt_22 : decode cX9_melt 22 = .ok (.getfield 88, 3) := by decide +kernel
theorem dX9_melt_25 : decode cX9_melt 25 = .ok (.iload_n 1, 1) := by decide +kernel
theorem dX9_melt_26 : decode cX9_melt 26 = .ok (.aaload, 1) := by decide +kernel
theorem dX9_melt_27 : decode cX9_melt 27 = .ok (.astore_n 2, 1) := by decide +kernel
theorem dX9_melt_28 : decode cX9_melt 28 = .ok (.aload_n 2, 1) := by decide +kernel
theorem dX9_melt_29 : decode cX9_melt 29 = .ok (.getfield 117, 3) := by decide +kernel
theorem dX9_melt_32 : decode cX9_melt 32 = .ok (.ifCond .lt 10, 3) := by decide +kernel
theorem dX9_melt_35 : decode cX9_melt 35 = .ok (.aload_n 0, 1) := by decide +kernel
theorem dX9_melt_36 : decode cX9_melt 36 = .ok (.ldc 120, 2) := by decide +kernel
theorem dX9_melt_38 : decode cX9_melt 38 = .ok (.invokevirtual 72, 3) := by decide +kernel
theorem dX9_melt_41 : decode cX9_melt 41 = .ok (.ireturn, 1) := by decide +kernel
theorem dX9_melt_42 : decode cX9_melt 42 = .ok (.aload_n 2, 1) := by decide +kernel
theorem dX9_melt_43 : decode cX9_melt 43 = .ok (.aload_n 2, 1) := by decide +kernel
theorem dX9_melt_44 : decode cX9_melt 44 = .ok (.getfield 105, 3) := by decide +kernel
theorem dX9_melt_47 : decode cX9_melt 47 = .ok (.invokevirtual 121, 3) := by decide +kernel
theorem dX9_melt_50 : decode cX9_melt 50 = .ok (.istore_n 3, 1) := by decide +kernel
theorem dX9_melt_51 : decode cX9_melt 51 = .ok (.aload_n 0, 1) := by decide +kernel
theorem dX9_melt_52 : decode cX9_melt 52 = .ok (.getfield 12, 3) := by decide +kernel
theorem dX9_melt_55 : decode cX9_melt 55 = .ok (.iload_n 3, 1) := by decide +kernel
theorem dX9_melt_56 : decode cX9_melt 56 = .ok (.invokevirtual 124, 3) := by decide +kernel
theorem dX9_melt_59 : decode cX9_melt 59 = .ok (.iload_n 3, 1) := by decide +kernel
theorem dX9_melt_60 : decode cX9_melt 60 = .ok (.ireturn, 1) := by decide +kernel
def fX9_melt (a1 : Int32) (M : Mm) : Option (Int32 × Mm) :=
  bd (fX7_hasLetter a1 M) fun r1 M2 =>
  if r1 = true then (gd (inb a1 24) <|
  gd (isC layC (4 + 1 * ix a1) 3) <|
  if (M2 (4 + 1 * ix a1) 5) < 0 then (bd (fX3_takeIce (4 + 1 * ix a1) (M2 (4 + 1 * ix a1) 3) M2) fun r7 M8 =>
  bd (fX7_dripInto r7 M8) fun r9 M10 =>
  some (r7, M10))
  else bd (fX9_refuse (-1000000003 : Int32) M2) fun r11 M12 =>
  some (r11, M12))
  else bd (fX9_refuse (-1000000001 : Int32) M2) fun r3 M4 =>
  some (r3, M4)
theorem mX9_melt (l : Launch) (G : Gx) (a1 : Int32) (M : Mm) : Mt cQi l layC G 3 yX9_melt cX9_melt 4 (some .int) [rf G 173, .int a1] M (fX9_melt a1 M) := by
  refine Mt.of2 (own := RX9) (lv := [(0, rf G 173), (1, .int a1)]) rfl (by decide +kernel) rfl rfl ?_
  unfold fX9_melt
  refine s_aload_n 0 dX9_melt_0 rfl rfl ?_
  refine g_X9_12 (q := 0) rfl rfl dX9_melt_1 ?_
  refine s_iload_n 1 dX9_melt_4 rfl rfl ?_
  refine s_call_z (s_runV (ci := 7) (rest := []) rfl rfl (mX7_hasLetter l G a1 M) ok_X7_hasLetter k_X9_79 rfl rfl rfl rfl dX9_melt_5) fun r1 M2 => ?_
  refine s_ifneB (tgt := 18) dX9_melt_8 (by decide) ?_ ?_
  · refine s_aload_n 0 dX9_melt_18 rfl rfl ?_
    refine g_X9_12 (q := 0) rfl rfl dX9_melt_19 ?_
    refine g_X9_88 (q := 3) rfl rfl dX9_melt_22 ?_
    refine s_iload_n 1 dX9_melt_25 rfl rfl ?_
    refine s_gd fun h5 => ?_
    refine s_aald (t := 1) (bs := 4) (sd := 1) (n := 24) rfl rfl h5 dX9_melt_26 ?_
    refine s_astore_n (lv' := [(2, rf G (4 + 1 * ix a1)), (0, rf G 173), (1, .int a1)]) dX9_melt_27 rfl rfl rfl ?_
    refine s_aload_n 0 dX9_melt_28 rfl rfl ?_
    refine s_gd fun h6 => ?_
    refine g_X9_117 h6 dX9_melt_29 ?_
    refine s_iflt (tgt := 42) dX9_melt_32 (by decide) ?_ ?_
    · refine s_aload_n 0 dX9_melt_42 rfl rfl ?_
      refine s_aload_n 0 dX9_melt_43 rfl rfl ?_
      refine g_X9_105 h6 dX9_melt_44 ?_
      refine s_call_i (s_runV (ci := 3) (rest := []) h6 rfl (mX3_takeIce l G (4 + 1 * ix a1) (M2 (4 + 1 * ix a1) 3) M2) ok_X3_takeIce k_X9_121 rfl rfl rfl rfl dX9_melt_47) fun r7 M8 => ?_
      refine s_istore_n (lv' := [(3, .int r7), (2, rf G (4 + 1 * ix a1)), (0, rf G 173), (1, .int a1)]) dX9_melt_50 rfl rfl rfl ?_
      refine s_aload_n 2 dX9_melt_51 rfl rfl ?_
      refine g_X9_12 (q := 0) rfl rfl dX9_melt_52 ?_
      refine s_iload_n 0 dX9_melt_55 rfl rfl ?_
      refine s_call_v (s_runV (ci := 7) (rest := []) rfl rfl (mX7_dripInto l G r7 M8) ok_X7_dripInto k_X9_124 rfl rfl rfl rfl dX9_melt_56) fun r9 M10 => ?_
      refine s_iload_n 0 dX9_melt_59 rfl rfl ?_
      exact s_iret rfl dX9_melt_60
    · refine s_aload_n 1 dX9_melt_35 rfl rfl ?_
      refine s_ldc (v := -1000000003) dX9_melt_36 q_493 ?_
      refine s_call_i (s_runV (ci := 9) (rest := []) rfl rfl (mX9_refuse l G (-1000000003 : Int32) M2) ok_X9_refuse k_X9_72 rfl rfl rfl rfl dX9_melt_38) fun r11 M12 => ?_
      exact s_iret rfl dX9_melt_41
  · refine s_aload_n 0 dX9_melt_11 rfl rfl ?_
    refine s_ldc (v := -1000000001) dX9_melt_12 q_425 ?_
    refine s_call_i (s_runV (ci := 9) (rest := []) rfl rfl (mX9_refuse l G (-1000000001 : Int32) M2) ok_X9_refuse k_X9_72 rfl rfl rfl rfl dX9_melt_14) fun r3 M4 => ?_
    exact s_iret rfl dX9_melt_17
theorem dX9_drink_0 : decode cX9_drink 0 = .ok (.aload_n 0, 1) := by decide +kernel
theorem dX9_drink_1 : decode cX9_drink 1 = .ok (.getfield 12, 3) := by decide +kernel
theorem dX9_drink_4 : decode cX9_drink 4 = .ok (.iload_n 1, 1) := by decide +kernel
theorem dX9_drink_5 : decode cX9_drink 5 = .ok (.invokevirtual 79, 3) := by decide +kernel
theorem dX9_drink_8 : decode cX9_drink 8 = .ok (.ifCond .ne 10, 3) := by decide +kernel
theorem dX9_drink_11 : decode cX9_drink 11 = .ok (.aload_n 0, 1) := by decide +kernel
theorem dX9_drink_12 : decode cX9_drink 12 = .ok (.ldc 87, 2) := by decide +kernel
theorem dX9_drink_14 : decode cX9_drink 14 = .ok (.invokevirtual 72, 3) := by decide +kernel
theorem dX9_drink_17 : decode cX9_drink 17 = .ok (.ireturn, 1) := by decide +kernel
theorem dX9_drink_18 : decode cX9_drink 18 = .ok (.aload_n 0, 1) := by decide +kernel
theorem dX9_drink_19 : decode cX9_drink 19 = .ok (.getfield 12, 3) := by decide +kernel
theorem dX9_drink_22 : decode cX9_drink 22 = .ok (.getfield 88, 3) := by decide +kernel
theorem dX9_drink_25 : decode cX9_drink 25 = .ok (.iload_n 1, 1) := by decide +kernel
theorem dX9_drink_26 : decode cX9_drink 26 = .ok (.aaload, 1) := by decide +kernel
theorem dX9_drink_27 : decode cX9_drink 27 = .ok (.astore_n 2, 1) := by decide +kernel
theorem dX9_drink_28 : decode cX9_drink 28 = .ok (.aload_n 2, 1) := by decide +kernel
theorem dX9_drink_29 : decode cX9_drink 29 = .ok (.aload_n 2, 1) := by decide +kernel
theorem dX9_drink_30 : decode cX9_drink 30 = .ok (.getfield 105, 3) := by decide +kernel
theorem dX9_drink_33 : decode cX9_drink 33 = .ok (.invokevirtual 121, 3) := by decide +kernel
theorem dX9_drink_36 : decode cX9_drink 36 = .ok (.istore_n 3, 1) := by decide +kernel
theorem dX9_drink_37 : decode cX9_drink 37 = .ok (.aload_n 0, 1) := by decide +kernel
theorem dX9_drink_38 : decode cX9_drink 38 = .ok (.getfield 12, 3) := by decide +kernel
theorem dX9_drink_41 : decode cX9_drink 41 = .ok (.dup, 1) := by decide +kernel
theorem dX9_drink_42 : decode cX9_drink 42 = .ok (.getfield 128, 3) := by decide +kernel
theorem dX9_drink_45 : decode cX9_drink 45 = .ok (.iload_n 3, 1) := by decide +kernel
theorem dX9_drink_46 : decode cX9_drink 46 = .ok (.iadd, 1) := by decide +kernel
theorem dX9_drink_47 : decode cX9_drink 47 = .ok (.putfield 128, 3) := by decide +kernel
theorem dX9_drink_50 : decode cX9_drink 50 = .ok (.iload_n 3, 1) := by decide +kernel
theorem dX9_drink_51 : decode cX9_drink 51 = .ok (.ireturn, 1) := by decide +kernel
def fX9_drink (a1 : Int32) (M : Mm) : Option (Int32 × Mm) :=
  bd (fX7_hasLetter a1 M) fun r1 M2 =>
  if r1 = true then (gd (inb a1 24) <|
  gd (isC layC (4 + 1 * ix a1) 3) <|
  bd (fX3_takeIce (4 + 1 * ix a1) (M2 (4 + 1 * ix a1) 3) M2) fun r7 M8 =>
  lt (wr M8 0 3 ((M8 0 3) + r7)) fun M9 =>
  some (r7, M9))
  else bd (fX9_refuse (-1000000001 : Int32) M2) fun r3 M4 =>
  some (r3, M4)
theorem mX9_drink (l : Launch) (G : Gx) (a1 : Int32) (M : Mm) : Mt cQi l layC G 3 yX9_drink cX9_drink 4 (some .int) [rf G 173, .int a1] M (fX9_drink a1 M) := by
  refine Mt.of2 (own := RX9) (lv := [(0, rf G 173), (1, .int a1)]) rfl (by decide +kernel) rfl rfl ?_
  unfold fX9_drink
  refine s_aload_n 0 dX9_drink_0 rfl rfl ?_
  refine g_X9_12 (q := 0) rfl rfl dX9_drink_1 ?_
  refine s_iload_n 1 dX9_drink_4 rfl rfl ?_
  refine s_call_z (s_runV (ci := 7) (rest := []) rfl rfl (mX7_hasLetter l G a1 M) ok_X7_hasLetter k_X9_79 rfl rfl rfl rfl dX9_drink_5) fun r1 M2 => ?_
  refine s_ifneB (tgt := 18) dX9_drink_8 (by decide) ?_ ?_
  · refine s_aload_n 0 dX9_drink_18 rfl rfl ?_
    refine g_X9_12 (q := 0) rfl rfl dX9_drink_19 ?_
    refine g_X9_88 (q := 3) rfl rfl dX9_drink_22 ?_
    refine s_iload_n 1 dX9_drink_25 rfl rfl ?_
    refine s_gd fun h5 => ?_
    refine s_aald (t := 1) (bs := 4) (sd := 1) (n := 24) rfl rfl h5 dX9_drink_26 ?_
    refine s_astore_n (lv' := [(2, rf G (4 + 1 * ix a1)), (0, rf G 173), (1, .int a1)]) dX9_drink_27 rfl rfl rfl ?_
    refine s_aload_n 0 dX9_drink_28 rfl rfl ?_
    refine s_aload_n 0 dX9_drink_29 rfl rfl ?_
    refine s_gd fun h6 => ?_
    refine g_X9_105 h6 dX9_drink_30 ?_
    refine s_call_i (s_runV (ci := 3) (rest := []) h6 rfl (mX3_takeIce l G (4 + 1 * ix a1) (M2 (4 + 1 * ix a1) 3) M2) ok_X3_takeIce k_X9_121 rfl rfl rfl rfl dX9_drink_33) fun r7 M8 => ?_
    refine s_istore_n (lv' := [(3, .int r7), (2, rf G (4 + 1 * ix a1)), (0, rf G 173), (1, .int a1)]) dX9_drink_36 rfl rfl rfl ?_
    refine s_aload_n 2 dX9_drink_37 rfl rfl ?_
    refine g_X9_12 (q := 0) rfl rfl dX9_drink_38 ?_
    refine s_dup dX9_drink_41 rfl ?_
    refine g_X9_128 rfl dX9_drink_42 ?_
    refine s_iload_n 0 dX9_drink_45 rfl rfl ?_
    refine s_iadd dX9_drink_46 ?_
    refine p_X9_128 rfl dX9_drink_47 ?_
    refine s_letM fun M9 => ?_
    refine s_iload_n 0 dX9_drink_50 rfl rfl ?_
    exact s_iret rfl dX9_drink_51
  · refine s_aload_n 0 dX9_drink_11 rfl rfl ?_
    refine s_ldc (v := -1000000001) dX9_drink_12 q_425 ?_
    refine s_call_i (s_runV (ci := 9) (rest := []) rfl rfl (mX9_refuse l G (-1000000001 : Int32) M2) ok_X9_refuse k_X9_72 rfl rfl rfl rfl dX9_drink_14) fun r3 M4 => ?_
    exact s_iret rfl dX9_drink_17
theorem dX9_have_0 : decode cX9_have 0 = .ok (.iload_n 1, 1) := by decide +kernel
theorem dX9_have_1 : decode cX9_have 1 = .ok (.iconst 0, 1) := by decide +kernel
theorem dX9_have_2 : decode cX9_have 2 = .ok (.iconst 3, 1) := by decide +kernel
theorem dX9_have_3 : decode cX9_have 3 = .ok (.invokestatic 83, 3) := by decide +kernel
theorem dX9_have_6 : decode cX9_have 6 = .ok (.ifCond .eq 36, 3) := by decide +kernel
theorem dX9_have_9 : decode cX9_have 9 = .ok (.iload_n 2, 1) := by decide +kernel
theorem dX9_have_10 : decode cX9_have 10 = .ok (.bipush (-9), 2) := by decide +kernel
theorem dX9_have_12 : decode cX9_have 12 = .ok (.bipush 20, 2) := by decide +kernel
theorem dX9_have_14 : decode cX9_have 14 = .ok (.invokestatic 83, 3) := by decide +kernel
theorem dX9_have_17 : decode cX9_have 17 = .ok (.ifCond .eq 25, 3) := by decide +kernel
theorem dX9_have_20 : decode cX9_have 20 = .ok (.aload_n 0, 1) := by decide +kernel
theorem dX9_have_21 : decode cX9_have 21 = .ok (.getfield 12, 3) := by decide +kernel
theorem dX9_have_24 : decode cX9_have 24 = .ok (.getfield 131, 3) := by decide +kernel
theorem dX9_have_27 : decode cX9_have 27 = .ok (.iload_n 1, 1) := by decide +kernel
theorem dX9_have_28 : decode cX9_have 28 = .ok (.iaload, 1) := by decide +kernel
theorem dX9_have_29 : decode cX9_have 29 = .ok (.istore_n 3, 1) := by decide +kernel
theorem dX9_have_30 : decode cX9_have 30 = .ok (.aload_n 0, 1) := by decide +kernel
theorem dX9_have_31 : decode cX9_have 31 = .ok (.getfield 12, 3) := by decide +kernel
theorem dX9_have_34 : decode cX9_have 34 = .ok (.getfield 131, 3) := by decide +kernel
theorem dX9_have_37 : decode cX9_have 37 = .ok (.iload_n 1, 1) := by decide +kernel
theorem dX9_have_38 : decode cX9_have 38 = .ok (.iload_n 2, 1) := by decide +kernel
theorem dX9_have_39 : decode cX9_have 39 = .ok (.iastore, 1) := by decide +kernel
theorem dX9_have_40 : decode cX9_have 40 = .ok (.iload_n 3, 1) := by decide +kernel
theorem dX9_have_41 : decode cX9_have 41 = .ok (.ireturn, 1) := by decide +kernel
theorem dX9_have_42 : decode cX9_have 42 = .ok (.iload_n 1, 1) := by decide +kernel
theorem dX9_have_43 : decode cX9_have 43 = .ok (.iconst 4, 1) := by decide +kernel
theorem dX9_have_44 : decode cX9_have 44 = .ok (.if_icmp .ne 31, 3) := by decide +kernel
theorem dX9_have_47 : decode cX9_have 47 = .ok (.iload_n 2, 1) := by decide +kernel
theorem dX9_have_48 : decode cX9_have 48 = .ok (.iconst 0, 1) := by decide +kernel
theorem dX9_have_49 : decode cX9_have 49 = .ok (.ldc 134, 2) := by decide +kernel
theorem dX9_have_51 : decode cX9_have 51 = .ok (.invokestatic 83, 3) := by decide +kernel
theorem dX9_have_54 : decode cX9_have 54 = .ok (.ifCond .eq 21, 3) := by decide +kernel
theorem dX9_have_57 : decode cX9_have 57 = .ok (.aload_n 0, 1) := by decide +kernel
theorem dX9_have_58 : decode cX9_have 58 = .ok (.getfield 12, 3) := by decide +kernel
theorem dX9_have_61 : decode cX9_have 61 = .ok (.getfield 135, 3) := by decide +kernel
theorem dX9_have_64 : decode cX9_have 64 = .ok (.istore_n 3, 1) := by decide +kernel
theorem dX9_have_65 : decode cX9_have 65 = .ok (.aload_n 0, 1) := by decide +kernel
theorem dX9_have_66 : decode cX9_have 66 = .ok (.getfield 12, 3) := by decide +kernel
theorem dX9_have_69 : decode cX9_have 69 = .ok (.iload_n 2, 1) := by decide +kernel
theorem dX9_have_70 : decode cX9_have 70 = .ok (.putfield 135, 3) := by decide +kernel
theorem dX9_have_73 : decode cX9_have 73 = .ok (.iload_n 3, 1) := by decide +kernel
theorem dX9_have_74 : decode cX9_have 74 = .ok (.ireturn, 1) := by decide +kernel
theorem dX9_have_75 : decode cX9_have 75 = .ok (.iload_n 1, 1) := by decide +kernel
theorem dX9_have_76 : decode cX9_have 76 = .ok (.iconst 5, 1) := by decide +kernel
theorem dX9_have_77 : decode cX9_have 77 = .ok (.if_icmp .ne 32, 3) := by decide +kernel
theorem dX9_have_80 : decode cX9_have 80 = .ok (.iload_n 2, 1) := by decide +kernel
theorem dX9_have_81 : decode cX9_have 81 = .ok (.iconst 0, 1) := by decide +kernel
theorem dX9_have_82 : decode cX9_have 82 = .ok (.sipush 9999, 3) := by decide +kernel
theorem dX9_have_85 : decode cX9_have 85 = .ok (.invokestatic 83, 3) := by decide +kernel
theorem dX9_have_88 : decode cX9_have 88 = .ok (.ifCond .eq 21, 3) := by decide +kernel
theorem dX9_have_91 : decode cX9_have 91 = .ok (.aload_n 0, 1) := by decide +kernel
theorem dX9_have_92 : decode cX9_have 92 = .ok (.getfield 12, 3) := by decide +kernel
theorem dX9_have_95 : decode cX9_have 95 = .ok (.getfield 138, 3) := by decide +kernel
theorem dX9_have_98 : decode cX9_have 98 = .ok (.istore_n 3, 1) := by decide +kernel
theorem dX9_have_99 : decode cX9_have 99 = .ok (.aload_n 0, 1) := by decide +kernel
theorem dX9_have_100 : decode cX9_have 100 = .ok (.getfield 12, 3) := by decide +kernel
theorem dX9_have_103 : decode cX9_have 103 = .ok (.iload_n 2, 1) := by decide +kernel
theorem dX9_have_104 : decode cX9_have 104 = .ok (.putfield 138, 3) := by decide +kernel
theorem dX9_have_107 : decode cX9_have 107 = .ok (.iload_n 3, 1) := by decide +kernel
theorem dX9_have_108 : decode cX9_have 108 = .ok (.ireturn, 1) := by decide +kernel
theorem dX9_have_109 : decode cX9_have 109 = .ok (.aload_n 0, 1) := by decide +kernel
theorem dX9_have_110 : decode cX9_have 110 = .ok (.ldc 87, 2) := by decide +kernel
theorem dX9_have_112 : decode cX9_have 112 = .ok (.invokevirtual 72, 3) := by decide +kernel
theorem dX9_have_115 : decode cX9_have 115 = .ok (.ireturn, 1) := by decide +kernel
def fX9_have_B109 (M : Mm) : Option (Int32 × Mm) :=
  bd (fX9_refuse (-1000000001 : Int32) M) fun r8 M9 =>
  some (r8, M9)
theorem tX9_have_B109 (l : Launch) (G : Gx) (M : Mm) : Sim cQi l layC G 3 cX9_have RX9 4 (some .int) 109 [(0, rf G 173)] [] M (fX9_have_B109 M) := by
  unfold fX9_have_B109
  refine s_aload_n 0 dX9_have_109 rfl rfl ?_
  refine s_ldc (v := -1000000001) dX9_have_110 q_425 ?_
  refine s_call_i (s_runV (ci := 9) (rest := []) rfl rfl (mX9_refuse l G (-1000000001 : Int32) M) ok_X9_refuse k_X9_72 rfl rfl rfl rfl dX9_have_112) fun r8 M9 => ?_
  exact s_iret rfl dX9_have_115
def fX9_have_B75 (v1 : Int32) (v2 : Int32) (M : Mm) : Option (Int32 × Mm) :=
  if v1 = (5 : Int32) then (bd (fX9_isWithin v2 (0 : Int32) (9999 : Int32) M) fun r10 M11 =>
  if r10 = true then (lt (M11 0 2) fun x12 =>
  lt (wr M11 0 2 v2) fun M13 =>
  some (x12, M13))
  else fX9_have_B109 M11)
  else fX9_have_B109 M
theorem tX9_have_B75 (l : Launch) (G : Gx) (v1 : Int32) (v2 : Int32) (M : Mm) : Sim cQi l layC G 3 cX9_have RX9 4 (some .int) 75 [(0, rf G 173), (1, .int v1), (2, .int v2)] [] M (fX9_have_B75 v1 v2 M) := by
  unfold fX9_have_B75
  refine s_iload_n 1 dX9_have_75 rfl rfl ?_
  refine s_iconst (v := 5) dX9_have_76 ci_5 ?_
  refine s_icmpne (tgt := 109) dX9_have_77 (by decide) ?_ ?_
  · exact s_sub [0] rfl (tX9_have_B109 l G M)
  · refine s_iload_n 2 dX9_have_80 rfl rfl ?_
    refine s_iconst (v := 0) dX9_have_81 ci_0 ?_
    refine s_sipush (v := 9999) dX9_have_82 cs_9999 ?_
    refine s_call_z (s_runS (rest := []) (mX9_isWithin l G v2 (0 : Int32) (9999 : Int32) M) ok_X9_isWithin k_X9_83 rfl rfl rfl rfl dX9_have_85) fun r10 M11 => ?_
    refine s_ifeqB (tgt := 109) dX9_have_88 (by decide) ?_ ?_
    · exact s_sub [0] rfl (tX9_have_B109 l G M11)
    · refine s_aload_n 0 dX9_have_91 rfl rfl ?_
      refine g_X9_12 (q := 0) rfl rfl dX9_have_92 ?_
      refine g_X9_138 rfl dX9_have_95 ?_
      refine s_leti fun x12 => ?_
      refine s_istore_n (lv' := [(3, .int x12), (0, rf G 173), (1, .int v1), (2, .int v2)]) dX9_have_98 rfl rfl rfl ?_
      refine s_aload_n 1 dX9_have_99 rfl rfl ?_
      refine g_X9_12 (q := 0) rfl rfl dX9_have_100 ?_
      refine s_iload_n 3 dX9_have_103 rfl rfl ?_
      refine p_X9_138 rfl dX9_have_104 ?_
      refine s_letM fun M13 => ?_
      refine s_iload_n 0 dX9_have_107 rfl rfl ?_
      exact s_iret rfl dX9_have_108
def fX9_have_B42 (v1 : Int32) (v2 : Int32) (M : Mm) : Option (Int32 × Mm) :=
  if v1 = (4 : Int32) then (bd (fX9_isWithin v2 (0 : Int32) (99999 : Int32) M) fun r14 M15 =>
  if r14 = true then (lt (M15 0 1) fun x16 =>
  lt (wr M15 0 1 v2) fun M17 =>
  some (x16, M17))
  else fX9_have_B75 v1 v2 M15)
  else fX9_have_B75 v1 v2 M
theorem tX9_have_B42 (l : Launch) (G : Gx) (v1 : Int32) (v2 : Int32) (M : Mm) : Sim cQi l layC G 3 cX9_have RX9 4 (some .int) 42 [(0, rf G 173), (1, .int v1), (2, .int v2)] [] M (fX9_have_B42 v1 v2 M) := by
  unfold fX9_have_B42
  refine s_iload_n 1 dX9_have_42 rfl rfl ?_
  refine s_iconst (v := 4) dX9_have_43 ci_4 ?_
  refine s_icmpne (tgt := 75) dX9_have_44 (by decide) ?_ ?_
  · exact s_sub [0, 1, 2] rfl (tX9_have_B75 l G v1 v2 M)
  · refine s_iload_n 2 dX9_have_47 rfl rfl ?_
    refine s_iconst (v := 0) dX9_have_48 ci_0 ?_
    refine s_ldc (v := 99999) dX9_have_49 q_511 ?_
    refine s_call_z (s_runS (rest := []) (mX9_isWithin l G v2 (0 : Int32) (99999 : Int32) M) ok_X9_isWithin k_X9_83 rfl rfl rfl rfl dX9_have_51) fun r14 M15 => ?_
    refine s_ifeqB (tgt := 75) dX9_have_54 (by decide) ?_ ?_
    · exact s_sub [0, 1, 2] rfl (tX9_have_B75 l G v1 v2 M15)
    · refine s_aload_n 0 dX9_have_57 rfl rfl ?_
      refine g_X9_12 (q := 0) rfl rfl dX9_have_58 ?_
      refine g_X9_135 rfl dX9_have_61 ?_
      refine s_leti fun x16 => ?_
      refine s_istore_n (lv' := [(3, .int x16), (0, rf G 173), (1, .int v1), (2, .int v2)]) dX9_have_64 rfl rfl rfl ?_
      refine s_aload_n 1 dX9_have_65 rfl rfl ?_
      refine g_X9_12 (q := 0) rfl rfl dX9_have_66 ?_
      refine s_iload_n 3 dX9_have_69 rfl rfl ?_
      refine p_X9_135 rfl dX9_have_70 ?_
      refine s_letM fun M17 => ?_
      refine s_iload_n 0 dX9_have_73 rfl rfl ?_
      exact s_iret rfl dX9_have_74
def fX9_have (a1 : Int32) (a2 : Int32) (M : Mm) : Option (Int32 × Mm) :=
  bd (fX9_isWithin a1 (0 : Int32) (3 : Int32) M) fun r1 M2 =>
  if r1 = true then (bd (fX9_isWithin a2 (-9 : Int32) (20 : Int32) M2) fun r3 M4 =>
  if r3 = true then (gd (inb a1 4) <|
  lt (M4 1 (ix a1)) fun x6 =>
  lt (wr M4 1 (ix a1) a2) fun M7 =>
  some (x6, M7))
  else fX9_have_B42 a1 a2 M4)
  else fX9_have_B42 a1 a2 M2
theorem mX9_have (l : Launch) (G : Gx) (a1 : Int32) (a2 : Int32) (M : Mm) : Mt cQi l layC G 3 yX9_have cX9_have 4 (some .int) [rf G 173, .int a1, .int a2] M (fX9_have a1 a2 M) := by
  refine Mt.of2 (own := RX9) (lv := [(0, rf G 173), (1, .int a1), (2, .int a2)]) rfl (by decide +kernel) rfl rfl ?_
  unfold fX9_have
  refine s_iload_n 1 dX9_have_0 rfl rfl ?_
  refine s_iconst (v := 0) dX9_have_1 ci_0 ?_
  refine s_iconst (v := 3) dX9_have_2 ci_3 ?_
  refine s_call_z (s_runS (rest := []) (mX9_isWithin l G a1 (0 : Int32) (3 : Int32) M) ok_X9_isWithin k_X9_83 rfl rfl rfl rfl dX9_have_3) fun r1 M2 => ?_
  refine s_ifeqB (tgt := 42) dX9_have_6 (by decide) ?_ ?_
  · exact s_sub [0, 1, 2] rfl (tX9_have_B42 l G a1 a2 M2)
  · refine s_iload_n 2 dX9_have_9 rfl rfl ?_
    refine s_bipush (v := -9) dX9_have_10 cb_m9 ?_
    refine s_bipush (v := 20) dX9_have_12 cb_20 ?_
    refine s_call_z (s_runS (rest := []) (mX9_isWithin l G a2 (-9 : Int32) (20 : Int32) M2) ok_X9_isWithin k_X9_83 rfl rfl rfl rfl dX9_have_14) fun r3 M4 => ?_
    refine s_ifeqB (tgt := 42) dX9_have_17 (by decide) ?_ ?_
    · exact s_sub [0, 1, 2] rfl (tX9_have_B42 l G a1 a2 M4)
    · refine s_aload_n 0 dX9_have_20 rfl rfl ?_
      refine g_X9_12 (q := 0) rfl rfl dX9_have_21 ?_
      refine g_X9_131 (q := 1) rfl rfl dX9_have_24 ?_
      refine s_iload_n 1 dX9_have_27 rfl rfl ?_
      refine s_gd fun h5 => ?_
      refine s_iald (n := 4) rfl h5 dX9_have_28 ?_
      refine s_leti fun x6 => ?_
      refine s_istore_n (lv' := [(3, .int x6), (0, rf G 173), (1, .int a1), (2, .int a2)]) dX9_have_29 rfl rfl rfl ?_
      refine s_aload_n 1 dX9_have_30 rfl rfl ?_
      refine g_X9_12 (q := 0) rfl rfl dX9_have_31 ?_
      refine g_X9_131 (q := 1) rfl rfl dX9_have_34 ?_
      refine s_iload_n 2 dX9_have_37 rfl rfl ?_
      refine s_iload_n 3 dX9_have_38 rfl rfl ?_
      refine s_iast (n := 4) rfl h5 dX9_have_39 ?_
      refine s_letM fun M7 => ?_
      refine s_iload_n 0 dX9_have_40 rfl rfl ?_
      exact s_iret rfl dX9_have_41
theorem dX9_feed_0 : decode cX9_feed 0 = .ok (.iload_n 3, 1) := by decide +kernel
theorem dX9_feed_1 : decode cX9_feed 1 = .ok (.iconst 1, 1) := by decide +kernel
theorem dX9_feed_2 : decode cX9_feed 2 = .ok (.bipush 8, 2) := by decide +kernel
theorem dX9_feed_4 : decode cX9_feed 4 = .ok (.invokestatic 83, 3) := by decide +kernel
theorem dX9_feed_7 : decode cX9_feed 7 = .ok (.ifCond .ne 10, 3) := by decide +kernel
theorem dX9_feed_10 : decode cX9_feed 10 = .ok (.aload_n 0, 1) := by decide +kernel
theorem dX9_feed_11 : decode cX9_feed 11 = .ok (.ldc 87, 2) := by decide +kernel
theorem dX9_feed_13 : decode cX9_feed 13 = .ok (.invokevirtual 72, 3) := by decide +kernel
theorem dX9_feed_16 : decode cX9_feed 16 = .ok (.ireturn, 1) := by decide +kernel
theorem dX9_feed_17 : decode cX9_feed 17 = .ok (.aload_n 0, 1) := by decide +kernel
theorem dX9_feed_18 : decode cX9_feed 18 = .ok (.getfield 12, 3) := by decide +kernel
theorem dX9_feed_21 : decode cX9_feed 21 = .ok (.getfield 39, 3) := by decide +kernel
theorem dX9_feed_24 : decode cX9_feed 24 = .ok (.getfield 141, 3) := by decide +kernel
theorem dX9_feed_27 : decode cX9_feed 27 = .ok (.iload_n 3, 1) := by decide +kernel
theorem dX9_feed_28 : decode cX9_feed 28 = .ok (.iadd, 1) := by decide +kernel
theorem dX9_feed_29 : decode cX9_feed 29 = .ok (.bipush 60, 2) := by decide +kernel
theorem dX9_feed_31 : decode cX9_feed 31 = .ok (.if_icmp .le 10, 3) := by decide +kernel
theorem dX9_feed_34 : decode cX9_feed 34 = .ok (.aload_n 0, 1) := by decide +kernel
theorem dX9_feed_35 : decode cX9_feed 35 = .ok (.ldc 146, 2) := by decide +kernel
theorem dX9_feed_37 : decode cX9_feed 37 = .ok (.invokevirtual 72, 3) := by decide +kernel
theorem dX9_feed_40 : decode cX9_feed 40 = .ok (.ireturn, 1) := by decide +kernel
theorem dX9_feed_41 : decode cX9_feed 41 = .ok (.iconst 0, 1) := by decide +kernel
theorem dX9_feed_42 : decode cX9_feed 42 = .ok (.istore 4, 2) := by decide +kernel
theorem dX9_feed_44 : decode cX9_feed 44 = .ok (.iload 4, 2) := by decide +kernel
theorem dX9_feed_46 : decode cX9_feed 46 = .ok (.iload_n 3, 1) := by decide +kernel
theorem dX9_feed_47 : decode cX9_feed 47 = .ok (.if_icmp .ge 32, 3) := by decide +kernel
theorem dX9_feed_50 : decode cX9_feed 50 = .ok (.aload_n 0, 1) := by decide +kernel
theorem dX9_feed_51 : decode cX9_feed 51 = .ok (.getfield 12, 3) := by decide +kernel
theorem dX9_feed_54 : decode cX9_feed 54 = .ok (.getfield 39, 3) := by decide +kernel
theorem dX9_feed_57 : decode cX9_feed 57 = .ok (.lload_n 1, 1) := by decide +kernel
theorem dX9_feed_58 : decode cX9_feed 58 = .ok (.bipush 8, 2) := by decide +kernel
theorem dX9_feed_60 : decode cX9_feed 60 = .ok (.iload 4, 2) := by decide +kernel
theorem dX9_feed_62 : decode cX9_feed 62 = .ok (.imul, 1) := by decide +kernel
theorem dX9_feed_63 : decode cX9_feed 63 = .ok (.lushr, 1) := by decide +kernel
theorem dX9_feed_64 : decode cX9_feed 64 = .ok (.l2i, 1) := by decide +kernel
theorem dX9_feed_65 : decode cX9_feed 65 = .ok (.sipush 255, 3) := by decide +kernel
theorem dX9_feed_68 : decode cX9_feed 68 = .ok (.iand, 1) := by decide +kernel
theorem dX9_feed_69 : decode cX9_feed 69 = .ok (.invokevirtual 147, 3) := by decide +kernel
theorem dX9_feed_72 : decode cX9_feed 72 = .ok (.pop, 1) := by decide +kernel
theorem dX9_feed_73 : decode cX9_feed 73 = .ok (.iinc 4 1, 3) := by decide +kernel
theorem dX9_feed_76 : decode cX9_feed 76 = .ok (.goto (-32), 3) := by decide +kernel
theorem dX9_feed_79 : decode cX9_feed 79 = .ok (.aload_n 0, 1) := by decide +kernel
theorem dX9_feed_80 : decode cX9_feed 80 = .ok (.getfield 12, 3) := by decide +kernel
theorem dX9_feed_83 : decode cX9_feed 83 = .ok (.getfield 39, 3) := by decide +kernel
theorem dX9_feed_86 : decode cX9_feed 86 = .ok (.getfield 141, 3) := by decide +kernel
theorem dX9_feed_89 : decode cX9_feed 89 = .ok (.ireturn, 1) := by decide +kernel
def fX9_feed_B79 (M : Mm) : Option (Int32 × Mm) :=
  some (M 64 1, M)
theorem tX9_feed_B79 (l : Launch) (G : Gx) (M : Mm) : Sim cQi l layC G 3 cX9_feed RX9 5 (some .int) 79 [(0, rf G 173)] [] M (fX9_feed_B79 M) := by
  unfold fX9_feed_B79
  refine s_aload_n 0 dX9_feed_79 rfl rfl ?_
  refine g_X9_12 (q := 0) rfl rfl dX9_feed_80 ?_
  refine g_X9_39 (q := 64) rfl rfl dX9_feed_83 ?_
  refine g_X9_141 rfl dX9_feed_86 ?_
  exact s_iret rfl dX9_feed_89
def fX9_feed_L44b (v1 : Int64) (v3 : Int32) (q44 : Int32 → Mm → Option (Int32 × Mm)) (v4 : Int32) (M : Mm) : Option (Int32 × Mm) :=
  if v3 ≤ v4 then (fX9_feed_B79 M)
  else bd (fX5_add 64 ((((v1.toUInt64 >>> (((8 : Int32) * v4).toInt64.toUInt64 &&& Int64.toUInt64 63)).toInt64).toInt32) &&& (255 : Int32)) M) fun r5 M6 =>
  q44 (v4 + 1) M6
def fX9_feed_L44 (v1 : Int64) (v3 : Int32) : Nat → Int32 → Mm → Option (Int32 × Mm)
  | 0 => fun _ _ => none
  | n + 1 => fX9_feed_L44b v1 v3 (fX9_feed_L44 v1 v3 n)
theorem tX9_feed_L44b (l : Launch) (G : Gx) (v1 : Int64) (v3 : Int32) (q44 : Int32 → Mm → Option (Int32 × Mm)) (hq44 : ∀ (v4 : Int32) (M : Mm), Sim cQi l layC G 3 cX9_feed RX9 5 (some .int) 44 [(4, .int v4), (0, rf G 173), (1, .long v1), (3, .int v3)] [] M (q44 v4 M)) (v4 : Int32) (M : Mm) : Sim cQi l layC G 3 cX9_feed RX9 5 (some .int) 44 [(4, .int v4), (0, rf G 173), (1, .long v1), (3, .int v3)] [] M (fX9_feed_L44b v1 v3 q44 v4 M) := by
  unfold fX9_feed_L44b
  refine s_iload 0 dX9_feed_44 rfl ?_
  refine s_iload_n 3 dX9_feed_46 rfl rfl ?_
  refine s_icmpge (tgt := 79) dX9_feed_47 (by decide) ?_ ?_
  · exact s_sub [1] rfl (tX9_feed_B79 l G M)
  · refine s_aload_n 1 dX9_feed_50 rfl rfl ?_
    refine g_X9_12 (q := 0) rfl rfl dX9_feed_51 ?_
    refine g_X9_39 (q := 64) rfl rfl dX9_feed_54 ?_
    refine s_lload_n 2 dX9_feed_57 rfl rfl ?_
    refine s_bipush (v := 8) dX9_feed_58 cb_8 ?_
    refine s_iload 0 dX9_feed_60 rfl ?_
    refine s_imul dX9_feed_62 ?_
    refine s_lushr dX9_feed_63 ?_
    refine s_l2i dX9_feed_64 ?_
    refine s_sipush (v := 255) dX9_feed_65 cs_255 ?_
    refine s_iand dX9_feed_68 ?_
    refine s_call_z (s_runV (ci := 5) (rest := []) rfl rfl (mX5_add l G 64 ((((v1.toUInt64 >>> (((8 : Int32) * v4).toInt64.toUInt64 &&& Int64.toUInt64 63)).toInt64).toInt32) &&& (255 : Int32)) M) ok_X5_add k_X9_147 rfl rfl rfl rfl dX9_feed_69) fun r5 M6 => ?_
    refine s_pop dX9_feed_72 rfl ?_
    refine s_iinc (k := 0) (lv' := [(4, .int (v4 + 1)), (0, rf G 173), (1, .long v1), (3, .int v3)]) dX9_feed_73 rfl ci_1 rfl rfl ?_
    refine s_goto (tgt := 44) dX9_feed_76 (by decide) ?_
    exact s_sub [0, 1, 2, 3] rfl (hq44 (v4 + 1) M6)
theorem tX9_feed_L44 (l : Launch) (G : Gx) (v1 : Int64) (v3 : Int32) : ∀ (n : Nat) (v4 : Int32) (M : Mm), Sim cQi l layC G 3 cX9_feed RX9 5 (some .int) 44 [(4, .int v4), (0, rf G 173), (1, .long v1), (3, .int v3)] [] M (fX9_feed_L44 v1 v3 n v4 M)
  | 0, _, _ => s_none
  | n + 1, v4, M => tX9_feed_L44b l G v1 v3 _ (tX9_feed_L44 l G v1 v3 n) v4 M
def fX9_feed (a1 : Int64) (a2 : Int32) (M : Mm) : Option (Int32 × Mm) :=
  bd (fX9_isWithin a2 (1 : Int32) (8 : Int32) M) fun r1 M2 =>
  if r1 = true then (if ((M2 64 1) + a2) ≤ (60 : Int32) then (fX9_feed_L44 a1 a2 FU (0 : Int32) M2)
  else bd (fX9_refuse (-1000000004 : Int32) M2) fun r7 M8 =>
  some (r7, M8))
  else bd (fX9_refuse (-1000000001 : Int32) M2) fun r3 M4 =>
  some (r3, M4)
theorem mX9_feed (l : Launch) (G : Gx) (a1 : Int64) (a2 : Int32) (M : Mm) : Mt cQi l layC G 3 yX9_feed cX9_feed 5 (some .int) [rf G 173, .long a1, .int a2] M (fX9_feed a1 a2 M) := by
  refine Mt.of2 (own := RX9) (lv := [(0, rf G 173), (1, .long a1), (3, .int a2)]) rfl (by decide +kernel) rfl rfl ?_
  unfold fX9_feed
  refine s_iload_n 2 dX9_feed_0 rfl rfl ?_
  refine s_iconst (v := 1) dX9_feed_1 ci_1 ?_
  refine s_bipush (v := 8) dX9_feed_2 cb_8 ?_
  refine s_call_z (s_runS (rest := []) (mX9_isWithin l G a2 (1 : Int32) (8 : Int32) M) ok_X9_isWithin k_X9_83 rfl rfl rfl rfl dX9_feed_4) fun r1 M2 => ?_
  refine s_ifneB (tgt := 17) dX9_feed_7 (by decide) ?_ ?_
  · refine s_aload_n 0 dX9_feed_17 rfl rfl ?_
    refine g_X9_12 (q := 0) rfl rfl dX9_feed_18 ?_
    refine g_X9_39 (q := 64) rfl rfl dX9_feed_21 ?_
    refine g_X9_141 rfl dX9_feed_24 ?_
    refine s_iload_n 2 dX9_feed_27 rfl rfl ?_
    refine s_iadd dX9_feed_28 ?_
    refine s_bipush (v := 60) dX9_feed_29 cb_60 ?_
    refine s_icmple (tgt := 41) dX9_feed_31 (by decide) ?_ ?_
    · refine s_iconst (v := 0) dX9_feed_41 ci_0 ?_
      refine s_istore (lv' := [(4, .int (0 : Int32)), (0, rf G 173), (1, .long a1), (3, .int a2)]) dX9_feed_42 rfl rfl ?_
      exact s_sub [0, 1, 2, 3] rfl (tX9_feed_L44 l G a1 a2 FU (0 : Int32) M2)
    · refine s_aload_n 0 dX9_feed_34 rfl rfl ?_
      refine s_ldc (v := -1000000004) dX9_feed_35 q_516 ?_
      refine s_call_i (s_runV (ci := 9) (rest := []) rfl rfl (mX9_refuse l G (-1000000004 : Int32) M2) ok_X9_refuse k_X9_72 rfl rfl rfl rfl dX9_feed_37) fun r7 M8 => ?_
      exact s_iret rfl dX9_feed_40
  · refine s_aload_n 0 dX9_feed_10 rfl rfl ?_
    refine s_ldc (v := -1000000001) dX9_feed_11 q_425 ?_
    refine s_call_i (s_runV (ci := 9) (rest := []) rfl rfl (mX9_refuse l G (-1000000001 : Int32) M2) ok_X9_refuse k_X9_72 rfl rfl rfl rfl dX9_feed_13) fun r3 M4 => ?_
    exact s_iret rfl dX9_feed_16
theorem dX9_text_0 : decode cX9_text 0 = .ok (.iload_n 1, 1) := by decide +kernel
theorem dX9_text_1 : decode cX9_text 1 = .ok (.iconst 0, 1) := by decide +kernel
theorem dX9_text_2 : decode cX9_text 2 = .ok (.iconst 1, 1) := by decide +kernel
theorem dX9_text_3 : decode cX9_text 3 = .ok (.invokestatic 83, 3) := by decide +kernel
theorem dX9_text_6 : decode cX9_text 6 = .ok (.ifCond .ne 10, 3) := by decide +kernel
theorem dX9_text_9 : decode cX9_text 9 = .ok (.aload_n 0, 1) := by decide +kernel
theorem dX9_text_10 : decode cX9_text 10 = .ok (.ldc 87, 2) := by decide +kernel
theorem dX9_text_12 : decode cX9_text 12 = .ok (.invokevirtual 72, 3) := by decide +kernel
theorem dX9_text_15 : decode cX9_text 15 = .ok (.ireturn, 1) := by decide +kernel
theorem dX9_text_16 : decode cX9_text 16 = .ok (.aload_n 0, 1) := by decide +kernel
theorem dX9_text_17 : decode cX9_text 17 = .ok (.getfield 46, 3) := by decide +kernel
theorem dX9_text_20 : decode cX9_text 20 = .ok (.iload_n 1, 1) := by decide +kernel
theorem dX9_text_21 : decode cX9_text 21 = .ok (.ifCond .ne 8, 3) := by decide +kernel
theorem dX9_text_24 : decode cX9_text 24 = .ok (.ldc 150, 2) := by decide +kernel
theorem dX9_text_26 : decode cX9_text 26 = .ok (.goto 5, 3) := by decide +kernel
theorem dX9_text_29 : decode cX9_text 29 = .ok (.ldc 152, 2) := by decide +kernel
theorem dX9_text_31 : decode cX9_text 31 = .ok (.invokevirtual 154, 3) := by decide +kernel
theorem dX9_text_34 : decode cX9_text 34 = .ok (.istore_n 2, 1) := by decide +kernel
theorem dX9_text_35 : decode cX9_text 35 = .ok (.aload_n 0, 1) := by decide +kernel
theorem dX9_text_36 : decode cX9_text 36 = .ok (.getfield 12, 3) := by decide +kernel
theorem dX9_text_39 : decode cX9_text 39 = .ok (.getfield 39, 3) := by decide +kernel
theorem dX9_text_42 : decode cX9_text 42 = .ok (.invokevirtual 158, 3) := by decide +kernel
theorem dX9_text_45 : decode cX9_text 45 = .ok (.iload_n 2, 1) := by decide +kernel
theorem dX9_text_46 : decode cX9_text 46 = .ok (.ifCond .lt 8, 3) := by decide +kernel
theorem dX9_text_49 : decode cX9_text 49 = .ok (.bipush (-10), 2) := by decide +kernel
theorem dX9_text_51 : decode cX9_text 51 = .ok (.iload_n 2, 1) := by decide +kernel
theorem dX9_text_52 : decode cX9_text 52 = .ok (.isub, 1) := by decide +kernel
theorem dX9_text_53 : decode cX9_text 53 = .ok (.ireturn, 1) := by decide +kernel
theorem dX9_text_54 : decode cX9_text 54 = .ok (.aload_n 0, 1) := by decide +kernel
theorem dX9_text_55 : decode cX9_text 55 = .ok (.getfield 12, 3) := by decide +kernel
theorem dX9_text_58 : decode cX9_text 58 = .ok (.iload_n 1, 1) := by decide +kernel
theorem dX9_text_59 : decode cX9_text 59 = .ok (.invokevirtual 161, 3) := by decide +kernel
theorem dX9_text_62 : decode cX9_text 62 = .ok (.getfield 165, 3) := by decide +kernel
theorem dX9_text_65 : decode cX9_text 65 = .ok (.aload_n 0, 1) := by decide +kernel
theorem dX9_text_66 : decode cX9_text 66 = .ok (.getfield 46, 3) := by decide +kernel
theorem dX9_text_69 : decode cX9_text 69 = .ok (.getfield 170, 3) := by decide +kernel
theorem dX9_text_72 : decode cX9_text 72 = .ok (.invokevirtual 171, 3) := by decide +kernel
theorem dX9_text_75 : decode cX9_text 75 = .ok (.iconst 1, 1) := by decide +kernel
theorem dX9_text_76 : decode cX9_text 76 = .ok (.ireturn, 1) := by decide +kernel
def fX9_text_B31 (v1 : Int32) (w0 : Nat) (M : Mm) : Option (Int32 × Mm) :=
  bd (fX2_faultOfTape w0 M) fun r5 M6 =>
  bd (fX5_clear 64 M6) fun r7 M8 =>
  if r5 < 0 then (bd (fX7_lawOf v1 M8) fun r9 M10 =>
  gd (isC layC r9 1) <|
  gd (isC layC (fR layC r9 0) 5) <|
  bd (fX5_takeFrom (fR layC r9 0) 154 M10) fun r13 M14 =>
  some ((1 : Int32), M14))
  else some ((-10 : Int32) - r5, M8)
theorem tX9_text_B31 (l : Launch) (G : Gx) (v1 : Int32) (w0 : Nat) (M : Mm) : Sim cQi l layC G 87 cX9_text RX9 3 (some .int) 31 [(0, rf G 173), (1, .int v1)] [xf G (2 + w0), rf G 153] M (fX9_text_B31 v1 w0 M) := by
  unfold fX9_text_B31
  refine s_call_i (s_runV (ci := 2) (rest := []) rfl rfl (mX2_faultOfTape l G w0 M) ok_X2_faultOfTape k_X9_154 rfl rfl rfl rfl dX9_text_31) fun r5 M6 => ?_
  refine s_istore_n (lv' := [(2, .int r5), (0, rf G 173), (1, .int v1)]) dX9_text_34 rfl rfl rfl ?_
  refine s_aload_n 1 dX9_text_35 rfl rfl ?_
  refine g_X9_12 (q := 0) rfl rfl dX9_text_36 ?_
  refine g_X9_39 (q := 64) rfl rfl dX9_text_39 ?_
  refine s_call_v (s_runV (ci := 5) (rest := []) rfl rfl (mX5_clear l G 64 M6) ok_X5_clear k_X9_158 rfl rfl rfl rfl dX9_text_42) fun r7 M8 => ?_
  refine s_iload_n 0 dX9_text_45 rfl rfl ?_
  refine s_iflt (tgt := 54) dX9_text_46 (by decide) ?_ ?_
  · refine s_aload_n 1 dX9_text_54 rfl rfl ?_
    refine g_X9_12 (q := 0) rfl rfl dX9_text_55 ?_
    refine s_iload_n 2 dX9_text_58 rfl rfl ?_
    refine s_call_r (s_runV (ci := 7) (rest := []) rfl rfl (mX7_lawOf l G v1 M8) ok_X7_lawOf k_X9_161 rfl rfl rfl rfl dX9_text_59) fun r9 M10 => ?_
    refine s_gd fun h11 => ?_
    refine g_X9_165 (q := fR layC r9 0) h11 rfl dX9_text_62 ?_
    refine s_aload_n 1 dX9_text_65 rfl rfl ?_
    refine g_X9_46 (q := 153) rfl rfl dX9_text_66 ?_
    refine g_X9_170 (q := 154) rfl rfl dX9_text_69 ?_
    refine s_gd fun h12 => ?_
    refine s_call_v (s_runV (ci := 5) (rest := []) h12 rfl (mX5_takeFrom l G (fR layC r9 0) 154 M10) ok_X5_takeFrom k_X9_171 rfl rfl rfl rfl dX9_text_72) fun r13 M14 => ?_
    refine s_iconst (v := 1) dX9_text_75 ci_1 ?_
    exact s_iret rfl dX9_text_76
  · refine s_bipush (v := -10) dX9_text_49 cb_m10 ?_
    refine s_iload_n 0 dX9_text_51 rfl rfl ?_
    refine s_isub dX9_text_52 ?_
    exact s_iret rfl dX9_text_53
def fX9_text (a1 : Int32) (M : Mm) : Option (Int32 × Mm) :=
  bd (fX9_isWithin a1 (0 : Int32) (1 : Int32) M) fun r1 M2 =>
  if r1 = true then (if a1 = 0 then (fX9_text_B31 a1 0 M2)
  else fX9_text_B31 a1 1 M2)
  else bd (fX9_refuse (-1000000001 : Int32) M2) fun r3 M4 =>
  some (r3, M4)
theorem mX9_text (l : Launch) (G : Gx) (a1 : Int32) (M : Mm) : Mt cQi l layC G 87 yX9_text cX9_text 3 (some .int) [rf G 173, .int a1] M (fX9_text a1 M) := by
  refine Mt.of2 (own := RX9) (lv := [(0, rf G 173), (1, .int a1)]) rfl (by decide +kernel) rfl rfl ?_
  unfold fX9_text
  refine s_iload_n 1 dX9_text_0 rfl rfl ?_
  refine s_iconst (v := 0) dX9_text_1 ci_0 ?_
  refine s_iconst (v := 1) dX9_text_2 ci_1 ?_
  refine s_call_z (s_runS (rest := []) (mX9_isWithin l G a1 (0 : Int32) (1 : Int32) M) ok_X9_isWithin k_X9_83 rfl rfl rfl rfl dX9_text_3) fun r1 M2 => ?_
  refine s_ifneB (tgt := 16) dX9_text_6 (by decide) ?_ ?_
  · refine s_aload_n 0 dX9_text_16 rfl rfl ?_
    refine g_X9_46 (q := 153) rfl rfl dX9_text_17 ?_
    refine s_iload_n 1 dX9_text_20 rfl rfl ?_
    refine s_ifne (tgt := 29) dX9_text_21 (by decide) ?_ ?_
    · refine s_ldcS1 dX9_text_29 rfl ?_
      exact s_sub [0, 1] rfl (tX9_text_B31 l G a1 1 M2)
    · refine s_ldcS0 dX9_text_24 rfl ?_
      refine s_goto (tgt := 31) dX9_text_26 (by decide) ?_
      exact s_sub [0, 1] rfl (tX9_text_B31 l G a1 0 M2)
  · refine s_aload_n 0 dX9_text_9 rfl rfl ?_
    refine s_ldc (v := -1000000001) dX9_text_10 q_425 ?_
    refine s_call_i (s_runV (ci := 9) (rest := []) rfl rfl (mX9_refuse l G (-1000000001 : Int32) M2) ok_X9_refuse k_X9_72 rfl rfl rfl rfl dX9_text_12) fun r3 M4 => ?_
    exact s_iret rfl dX9_text_15
theorem dX9_untell_0 : decode cX9_untell 0 = .ok (.iload_n 1, 1) := by decide +kernel
theorem dX9_untell_1 : decode cX9_untell 1 = .ok (.iconst 0, 1) := by decide +kernel
theorem dX9_untell_2 : decode cX9_untell 2 = .ok (.iconst 1, 1) := by decide +kernel
theorem dX9_untell_3 : decode cX9_untell 3 = .ok (.invokestatic 83, 3) := by decide +kernel
theorem dX9_untell_6 : decode cX9_untell 6 = .ok (.ifCond .ne 10, 3) := by decide +kernel
theorem dX9_untell_9 : decode cX9_untell 9 = .ok (.aload_n 0, 1) := by decide +kernel
theorem dX9_untell_10 : decode cX9_untell 10 = .ok (.ldc 87, 2) := by decide +kernel
theorem dX9_untell_12 : decode cX9_untell 12 = .ok (.invokevirtual 72, 3) := by decide +kernel
theorem dX9_untell_15 : decode cX9_untell 15 = .ok (.ireturn, 1) := by decide +kernel
theorem dX9_untell_16 : decode cX9_untell 16 = .ok (.aload_n 0, 1) := by decide +kernel
theorem dX9_untell_17 : decode cX9_untell 17 = .ok (.getfield 12, 3) := by decide +kernel
theorem dX9_untell_20 : decode cX9_untell 20 = .ok (.iload_n 1, 1) := by decide +kernel
theorem dX9_untell_21 : decode cX9_untell 21 = .ok (.invokevirtual 161, 3) := by decide +kernel
theorem dX9_untell_24 : decode cX9_untell 24 = .ok (.astore_n 2, 1) := by decide +kernel
theorem dX9_untell_25 : decode cX9_untell 25 = .ok (.aload_n 2, 1) := by decide +kernel
theorem dX9_untell_26 : decode cX9_untell 26 = .ok (.invokevirtual 174, 3) := by decide +kernel
theorem dX9_untell_29 : decode cX9_untell 29 = .ok (.ifCond .eq 7, 3) := by decide +kernel
theorem dX9_untell_32 : decode cX9_untell 32 = .ok (.iconst 1, 1) := by decide +kernel
theorem dX9_untell_33 : decode cX9_untell 33 = .ok (.goto 4, 3) := by decide +kernel
theorem dX9_untell_36 : decode cX9_untell 36 = .ok (.iconst 0, 1) := by decide +kernel
theorem dX9_untell_37 : decode cX9_untell 37 = .ok (.istore_n 3, 1) := by decide +kernel
theorem dX9_untell_38 : decode cX9_untell 38 = .ok (.aload_n 2, 1) := by decide +kernel
theorem dX9_untell_39 : decode cX9_untell 39 = .ok (.getfield 165, 3) := by decide +kernel
theorem dX9_untell_42 : decode cX9_untell 42 = .ok (.invokevirtual 158, 3) := by decide +kernel
theorem dX9_untell_45 : decode cX9_untell 45 = .ok (.iload_n 3, 1) := by decide +kernel
theorem dX9_untell_46 : decode cX9_untell 46 = .ok (.ireturn, 1) := by decide +kernel
def fX9_untell_B37 (v2 : Nat) (w0 : Int32) (M : Mm) : Option (Int32 × Mm) :=
  gd (isC layC v2 1) <|
  gd (isC layC (fR layC v2 0) 5) <|
  bd (fX5_clear (fR layC v2 0) M) fun r12 M13 =>
  some (w0, M13)
theorem tX9_untell_B37 (l : Launch) (G : Gx) (v2 : Nat) (w0 : Int32) (M : Mm) : Sim cQi l layC G 3 cX9_untell RX9 4 (some .int) 37 [(2, rf G v2)] [.int w0] M (fX9_untell_B37 v2 w0 M) := by
  unfold fX9_untell_B37
  refine s_istore_n (lv' := [(3, .int w0), (2, rf G v2)]) dX9_untell_37 rfl rfl rfl ?_
  refine s_aload_n 1 dX9_untell_38 rfl rfl ?_
  refine s_gd fun h10 => ?_
  refine g_X9_165 (q := fR layC v2 0) h10 rfl dX9_untell_39 ?_
  refine s_gd fun h11 => ?_
  refine s_call_v (s_runV (ci := 5) (rest := []) h11 rfl (mX5_clear l G (fR layC v2 0) M) ok_X5_clear k_X9_158 rfl rfl rfl rfl dX9_untell_42) fun r12 M13 => ?_
  refine s_iload_n 0 dX9_untell_45 rfl rfl ?_
  exact s_iret rfl dX9_untell_46
def fX9_untell (a1 : Int32) (M : Mm) : Option (Int32 × Mm) :=
  bd (fX9_isWithin a1 (0 : Int32) (1 : Int32) M) fun r1 M2 =>
  if r1 = true then (bd (fX7_lawOf a1 M2) fun r5 M6 =>
  gd (isC layC r5 1) <|
  bd (fX1_isTold r5 M6) fun r8 M9 =>
  if r8 = true then (fX9_untell_B37 r5 (1 : Int32) M9)
  else fX9_untell_B37 r5 (0 : Int32) M9)
  else bd (fX9_refuse (-1000000001 : Int32) M2) fun r3 M4 =>
  some (r3, M4)
theorem mX9_untell (l : Launch) (G : Gx) (a1 : Int32) (M : Mm) : Mt cQi l layC G 3 yX9_untell cX9_untell 4 (some .int) [rf G 173, .int a1] M (fX9_untell a1 M) := by
  refine Mt.of2 (own := RX9) (lv := [(0, rf G 173), (1, .int a1)]) rfl (by decide +kernel) rfl rfl ?_
  unfold fX9_untell
  refine s_iload_n 1 dX9_untell_0 rfl rfl ?_
  refine s_iconst (v := 0) dX9_untell_1 ci_0 ?_
  refine s_iconst (v := 1) dX9_untell_2 ci_1 ?_
  refine s_call_z (s_runS (rest := []) (mX9_isWithin l G a1 (0 : Int32) (1 : Int32) M) ok_X9_isWithin k_X9_83 rfl rfl rfl rfl dX9_untell_3) fun r1 M2 => ?_
  refine s_ifneB (tgt := 16) dX9_untell_6 (by decide) ?_ ?_
  · refine s_aload_n 0 dX9_untell_16 rfl rfl ?_
    refine g_X9_12 (q := 0) rfl rfl dX9_untell_17 ?_
    refine s_iload_n 1 dX9_untell_20 rfl rfl ?_
    refine s_call_r (s_runV (ci := 7) (rest := []) rfl rfl (mX7_lawOf l G a1 M2) ok_X7_lawOf k_X9_161 rfl rfl rfl rfl dX9_untell_21) fun r5 M6 => ?_
    refine s_astore_n (lv' := [(2, rf G r5), (0, rf G 173), (1, .int a1)]) dX9_untell_24 rfl rfl rfl ?_
    refine s_aload_n 0 dX9_untell_25 rfl rfl ?_
    refine s_gd fun h7 => ?_
    refine s_call_z (s_runV (ci := 1) (rest := []) h7 rfl (mX1_isTold l G r5 M6) ok_X1_isTold k_X9_174 rfl rfl rfl rfl dX9_untell_26) fun r8 M9 => ?_
    refine s_ifeqB (tgt := 36) dX9_untell_29 (by decide) ?_ ?_
    · refine s_iconst (v := 0) dX9_untell_36 ci_0 ?_
      exact s_sub [0] rfl (tX9_untell_B37 l G r5 (0 : Int32) M9)
    · refine s_iconst (v := 1) dX9_untell_32 ci_1 ?_
      refine s_goto (tgt := 37) dX9_untell_33 (by decide) ?_
      exact s_sub [0] rfl (tX9_untell_B37 l G r5 (1 : Int32) M9)
  · refine s_aload_n 0 dX9_untell_9 rfl rfl ?_
    refine s_ldc (v := -1000000001) dX9_untell_10 q_425 ?_
    refine s_call_i (s_runV (ci := 9) (rest := []) rfl rfl (mX9_refuse l G (-1000000001 : Int32) M2) ok_X9_refuse k_X9_72 rfl rfl rfl rfl dX9_untell_12) fun r3 M4 => ?_
    exact s_iret rfl dX9_untell_15
theorem dX9_word_0 : decode cX9_word 0 = .ok (.aload_n 0, 1) := by decide +kernel
theorem dX9_word_1 : decode cX9_word 1 = .ok (.getfield 12, 3) := by decide +kernel
theorem dX9_word_4 : decode cX9_word 4 = .ok (.getfield 178, 3) := by decide +kernel
theorem dX9_word_7 : decode cX9_word 7 = .ok (.bipush 8, 2) := by decide +kernel
theorem dX9_word_9 : decode cX9_word 9 = .ok (.if_icmp .lt 10, 3) := by decide +kernel
theorem dX9_word_12 : decode cX9_word 12 = .ok (.aload_n 0, 1) := by decide +kernel
theorem dX9_word_13 : decode cX9_word 13 = .ok (.ldc 146, 2) := by decide +kernel
theorem dX9_word_15 : decode cX9_word 15 = .ok (.invokevirtual 72, 3) := by decide +kernel
theorem dX9_word_18 : decode cX9_word 18 = .ok (.ireturn, 1) := by decide +kernel
theorem dX9_word_19 : decode cX9_word 19 = .ok (.aload_n 0, 1) := by decide +kernel
theorem dX9_word_20 : decode cX9_word 20 = .ok (.getfield 12, 3) := by decide +kernel
theorem dX9_word_23 : decode cX9_word 23 = .ok (.invokevirtual 181, 3) := by decide +kernel
theorem dX9_word_26 : decode cX9_word 26 = .ok (.istore_n 1, 1) := by decide +kernel
theorem dX9_word_27 : decode cX9_word 27 = .ok (.iload_n 1, 1) := by decide +kernel
theorem dX9_word_28 : decode cX9_word 28 = .ok (.ifCond .lt 10, 3) := by decide +kernel
theorem dX9_word_31 : decode cX9_word 31 = .ok (.bipush (-10), 2) := by decide +kernel
theorem dX9_word_33 : decode cX9_word 33 = .ok (.iload_n 1, 1) := by decide +kernel
theorem dX9_word_34 : decode cX9_word 34 = .ok (.isub, 1) := by decide +kernel
theorem dX9_word_35 : decode cX9_word 35 = .ok (.goto 10, 3) := by decide +kernel
theorem dX9_word_38 : decode cX9_word 38 = .ok (.aload_n 0, 1) := by decide +kernel
theorem dX9_word_39 : decode cX9_word 39 = .ok (.getfield 12, 3) := by decide +kernel
theorem dX9_word_42 : decode cX9_word 42 = .ok (.getfield 178, 3) := by decide +kernel
theorem dX9_word_45 : decode cX9_word 45 = .ok (.istore_n 2, 1) := by decide +kernel
theorem dX9_word_46 : decode cX9_word 46 = .ok (.iload_n 1, 1) := by decide +kernel
theorem dX9_word_47 : decode cX9_word 47 = .ok (.ifCond .ge 41, 3) := by decide +kernel
theorem dX9_word_50 : decode cX9_word 50 = .ok (.aload_n 0, 1) := by decide +kernel
theorem dX9_word_51 : decode cX9_word 51 = .ok (.getfield 12, 3) := by decide +kernel
theorem dX9_word_54 : decode cX9_word 54 = .ok (.getfield 185, 3) := by decide +kernel
theorem dX9_word_57 : decode cX9_word 57 = .ok (.aload_n 0, 1) := by decide +kernel
theorem dX9_word_58 : decode cX9_word 58 = .ok (.getfield 12, 3) := by decide +kernel
theorem dX9_word_61 : decode cX9_word 61 = .ok (.getfield 178, 3) := by decide +kernel
theorem dX9_word_64 : decode cX9_word 64 = .ok (.aaload, 1) := by decide +kernel
theorem dX9_word_65 : decode cX9_word 65 = .ok (.aload_n 0, 1) := by decide +kernel
theorem dX9_word_66 : decode cX9_word 66 = .ok (.getfield 12, 3) := by decide +kernel
theorem dX9_word_69 : decode cX9_word 69 = .ok (.getfield 39, 3) := by decide +kernel
theorem dX9_word_72 : decode cX9_word 72 = .ok (.invokevirtual 171, 3) := by decide +kernel
theorem dX9_word_75 : decode cX9_word 75 = .ok (.aload_n 0, 1) := by decide +kernel
theorem dX9_word_76 : decode cX9_word 76 = .ok (.getfield 12, 3) := by decide +kernel
theorem dX9_word_79 : decode cX9_word 79 = .ok (.dup, 1) := by decide +kernel
theorem dX9_word_80 : decode cX9_word 80 = .ok (.getfield 178, 3) := by decide +kernel
theorem dX9_word_83 : decode cX9_word 83 = .ok (.iconst 1, 1) := by decide +kernel
theorem dX9_word_84 : decode cX9_word 84 = .ok (.iadd, 1) := by decide +kernel
theorem dX9_word_85 : decode cX9_word 85 = .ok (.putfield 178, 3) := by decide +kernel
theorem dX9_word_88 : decode cX9_word 88 = .ok (.aload_n 0, 1) := by decide +kernel
theorem dX9_word_89 : decode cX9_word 89 = .ok (.getfield 12, 3) := by decide +kernel
theorem dX9_word_92 : decode cX9_word 92 = .ok (.getfield 39, 3) := by decide +kernel
theorem dX9_word_95 : decode cX9_word 95 = .ok (.invokevirtual 158, 3) := by decide +kernel
theorem dX9_word_98 : decode cX9_word 98 = .ok (.iload_n 2, 1) := by decide +kernel
theorem dX9_word_99 : decode cX9_word 99 = .ok (.ireturn, 1) := by decide +kernel
def fX9_word_B88 (v2 : Int32) (M : Mm) : Option (Int32 × Mm) :=
  bd (fX5_clear 64 M) fun r3 M4 =>
  some (v2, M4)
theorem tX9_word_B88 (l : Launch) (G : Gx) (v2 : Int32) (M : Mm) : Sim cQi l layC G 4 cX9_word RX9 3 (some .int) 88 [(2, .int v2), (0, rf G 173)] [] M (fX9_word_B88 v2 M) := by
  unfold fX9_word_B88
  refine s_aload_n 1 dX9_word_88 rfl rfl ?_
  refine g_X9_12 (q := 0) rfl rfl dX9_word_89 ?_
  refine g_X9_39 (q := 64) rfl rfl dX9_word_92 ?_
  refine s_call_v (s_runV (ci := 5) (rest := []) rfl rfl (mX5_clear l G 64 M) ok_X5_clear k_X9_158 rfl rfl rfl rfl dX9_word_95) fun r3 M4 => ?_
  refine s_iload_n 0 dX9_word_98 rfl rfl ?_
  exact s_iret rfl dX9_word_99
def fX9_word_B45 (v1 : Int32) (w0 : Int32) (M : Mm) : Option (Int32 × Mm) :=
  if 0 ≤ v1 then (fX9_word_B88 w0 M)
  else gd (inb (M 0 12) 8) <|
  gd (isC layC (48 + 2 * ix (M 0 12)) 5) <|
  bd (fX5_takeFrom (48 + 2 * ix (M 0 12)) 64 M) fun r7 M8 =>
  lt (wr M8 0 12 ((M8 0 12) + (1 : Int32))) fun M9 =>
  fX9_word_B88 w0 M9
theorem tX9_word_B45 (l : Launch) (G : Gx) (v1 : Int32) (w0 : Int32) (M : Mm) : Sim cQi l layC G 4 cX9_word RX9 3 (some .int) 45 [(1, .int v1), (0, rf G 173)] [.int w0] M (fX9_word_B45 v1 w0 M) := by
  unfold fX9_word_B45
  refine s_istore_n (lv' := [(2, .int w0), (1, .int v1), (0, rf G 173)]) dX9_word_45 rfl rfl rfl ?_
  refine s_iload_n 1 dX9_word_46 rfl rfl ?_
  refine s_ifge (tgt := 88) dX9_word_47 (by decide) ?_ ?_
  · exact s_sub [0, 2] rfl (tX9_word_B88 l G w0 M)
  · refine s_aload_n 2 dX9_word_50 rfl rfl ?_
    refine g_X9_12 (q := 0) rfl rfl dX9_word_51 ?_
    refine g_X9_185 (q := 47) rfl rfl dX9_word_54 ?_
    refine s_aload_n 2 dX9_word_57 rfl rfl ?_
    refine g_X9_12 (q := 0) rfl rfl dX9_word_58 ?_
    refine g_X9_178 rfl dX9_word_61 ?_
    refine s_gd fun h5 => ?_
    refine s_aald (t := 2) (bs := 48) (sd := 2) (n := 8) rfl rfl h5 dX9_word_64 ?_
    refine s_aload_n 2 dX9_word_65 rfl rfl ?_
    refine g_X9_12 (q := 0) rfl rfl dX9_word_66 ?_
    refine g_X9_39 (q := 64) rfl rfl dX9_word_69 ?_
    refine s_gd fun h6 => ?_
    refine s_call_v (s_runV (ci := 5) (rest := []) h6 rfl (mX5_takeFrom l G (48 + 2 * ix (M 0 12)) 64 M) ok_X5_takeFrom k_X9_171 rfl rfl rfl rfl dX9_word_72) fun r7 M8 => ?_
    refine s_aload_n 2 dX9_word_75 rfl rfl ?_
    refine g_X9_12 (q := 0) rfl rfl dX9_word_76 ?_
    refine s_dup dX9_word_79 rfl ?_
    refine g_X9_178 rfl dX9_word_80 ?_
    refine s_iconst (v := 1) dX9_word_83 ci_1 ?_
    refine s_iadd dX9_word_84 ?_
    refine p_X9_178 rfl dX9_word_85 ?_
    refine s_letM fun M9 => ?_
    exact s_sub [0, 2] rfl (tX9_word_B88 l G w0 M9)
def fX9_word  (M : Mm) : Option (Int32 × Mm) :=
  if (M 0 12) < (8 : Int32) then (bd (fX7_wordFault M) fun r1 M2 =>
  if r1 < 0 then (fX9_word_B45 r1 (M2 0 12) M2)
  else fX9_word_B45 r1 ((-10 : Int32) - r1) M2)
  else bd (fX9_refuse (-1000000004 : Int32) M) fun r10 M11 =>
  some (r10, M11)
theorem mX9_word (l : Launch) (G : Gx)  (M : Mm) : Mt cQi l layC G 4 yX9_word cX9_word 3 (some .int) [rf G 173] M (fX9_word M) := by
  refine Mt.of2 (own := RX9) (lv := [(0, rf G 173)]) rfl (by decide +kernel) rfl rfl ?_
  unfold fX9_word
  refine s_aload_n 0 dX9_word_0 rfl rfl ?_
  refine g_X9_12 (q := 0) rfl rfl dX9_word_1 ?_
  refine g_X9_178 rfl dX9_word_4 ?_
  refine s_bipush (v := 8) dX9_word_7 cb_8 ?_
  refine s_icmplt (tgt := 19) dX9_word_9 (by decide) ?_ ?_
  · refine s_aload_n 0 dX9_word_19 rfl rfl ?_
    refine g_X9_12 (q := 0) rfl rfl dX9_word_20 ?_
    refine s_call_i (s_runV (ci := 7) (rest := []) rfl rfl (mX7_wordFault l G M) ok_X7_wordFault k_X9_181 rfl rfl rfl rfl dX9_word_23) fun r1 M2 => ?_
    refine s_istore_n (lv' := [(1, .int r1), (0, rf G 173)]) dX9_word_26 rfl rfl rfl ?_
    refine s_iload_n 0 dX9_word_27 rfl rfl ?_
    refine s_iflt (tgt := 38) dX9_word_28 (by decide) ?_ ?_
    · refine s_aload_n 1 dX9_word_38 rfl rfl ?_
      refine g_X9_12 (q := 0) rfl rfl dX9_word_39 ?_
      refine g_X9_178 rfl dX9_word_42 ?_
      exact s_sub [0, 1] rfl (tX9_word_B45 l G r1 (M2 0 12) M2)
    · refine s_bipush (v := -10) dX9_word_31 cb_m10 ?_
      refine s_iload_n 0 dX9_word_33 rfl rfl ?_
      refine s_isub dX9_word_34 ?_
      refine s_goto (tgt := 45) dX9_word_35 (by decide) ?_
      exact s_sub [0, 1] rfl (tX9_word_B45 l G r1 ((-10 : Int32) - r1) M2)
  · refine s_aload_n 0 dX9_word_12 rfl rfl ?_
    refine s_ldc (v := -1000000004) dX9_word_13 q_516 ?_
    refine s_call_i (s_runV (ci := 9) (rest := []) rfl rfl (mX9_refuse l G (-1000000004 : Int32) M) ok_X9_refuse k_X9_72 rfl rfl rfl rfl dX9_word_15) fun r10 M11 => ?_
    exact s_iret rfl dX9_word_18
theorem dX9_decree_0 : decode cX9_decree 0 = .ok (.aload_n 0, 1) := by decide +kernel
theorem dX9_decree_1 : decode cX9_decree 1 = .ok (.getfield 12, 3) := by decide +kernel
theorem dX9_decree_4 : decode cX9_decree 4 = .ok (.invokevirtual 189, 3) := by decide +kernel
theorem dX9_decree_7 : decode cX9_decree 7 = .ok (.istore_n 1, 1) := by decide +kernel
theorem dX9_decree_8 : decode cX9_decree 8 = .ok (.aload_n 0, 1) := by decide +kernel
theorem dX9_decree_9 : decode cX9_decree 9 = .ok (.getfield 12, 3) := by decide +kernel
theorem dX9_decree_12 : decode cX9_decree 12 = .ok (.getfield 39, 3) := by decide +kernel
theorem dX9_decree_15 : decode cX9_decree 15 = .ok (.invokevirtual 158, 3) := by decide +kernel
theorem dX9_decree_18 : decode cX9_decree 18 = .ok (.iload_n 1, 1) := by decide +kernel
theorem dX9_decree_19 : decode cX9_decree 19 = .ok (.ireturn, 1) := by decide +kernel
def fX9_decree  (M : Mm) : Option (Int32 × Mm) :=
  bd (fX7_placeNotSet M) fun r1 M2 =>
  bd (fX5_clear 64 M2) fun r3 M4 =>
  some (r1, M4)
theorem mX9_decree (l : Launch) (G : Gx)  (M : Mm) : Mt cQi l layC G 5 yX9_decree cX9_decree 2 (some .int) [rf G 173] M (fX9_decree M) := by
  refine Mt.of2 (own := RX9) (lv := [(0, rf G 173)]) rfl (by decide +kernel) rfl rfl ?_
  unfold fX9_decree
  refine s_aload_n 0 dX9_decree_0 rfl rfl ?_
  refine g_X9_12 (q := 0) rfl rfl dX9_decree_1 ?_
  refine s_call_i (s_runV (ci := 7) (rest := []) rfl rfl (mX7_placeNotSet l G M) ok_X7_placeNotSet k_X9_189 rfl rfl rfl rfl dX9_decree_4) fun r1 M2 => ?_
  refine s_istore_n (lv' := [(1, .int r1), (0, rf G 173)]) dX9_decree_7 rfl rfl rfl ?_
  refine s_aload_n 1 dX9_decree_8 rfl rfl ?_
  refine g_X9_12 (q := 0) rfl rfl dX9_decree_9 ?_
  refine g_X9_39 (q := 64) rfl rfl dX9_decree_12 ?_
  refine s_call_v (s_runV (ci := 5) (rest := []) rfl rfl (mX5_clear l G 64 M2) ok_X5_clear k_X9_158 rfl rfl rfl rfl dX9_decree_15) fun r3 M4 => ?_
  refine s_iload_n 0 dX9_decree_18 rfl rfl ?_
  exact s_iret rfl dX9_decree_19
theorem dX9_lay_0 : decode cX9_lay 0 = .ok (.iload_n 1, 1) := by decide +kernel
theorem dX9_lay_1 : decode cX9_lay 1 = .ok (.invokestatic 192, 3) := by decide +kernel
theorem dX9_lay_4 : decode cX9_lay 4 = .ok (.ifCond .eq 14, 3) := by decide +kernel
theorem dX9_lay_7 : decode cX9_lay 7 = .ok (.aload_n 0, 1) := by decide +kernel
theorem dX9_lay_8 : decode cX9_lay 8 = .ok (.getfield 12, 3) := by decide +kernel
theorem dX9_lay_11 : decode cX9_lay 11 = .ok (.iload_n 2, 1) := by decide +kernel
theorem dX9_lay_12 : decode cX9_lay 12 = .ok (.invokevirtual 79, 3) := by decide +kernel
theorem dX9_lay_15 : decode cX9_lay 15 = .ok (.ifCond .ne 10, 3) := by decide +kernel
theorem dX9_lay_18 : decode cX9_lay 18 = .ok (.aload_n 0, 1) := by decide +kernel
theorem dX9_lay_19 : decode cX9_lay 19 = .ok (.ldc 87, 2) := by decide +kernel
theorem dX9_lay_21 : decode cX9_lay 21 = .ok (.invokevirtual 72, 3) := by decide +kernel
theorem dX9_lay_24 : decode cX9_lay 24 = .ok (.ireturn, 1) := by decide +kernel
theorem dX9_lay_25 : decode cX9_lay 25 = .ok (.aload_n 0, 1) := by decide +kernel
theorem dX9_lay_26 : decode cX9_lay 26 = .ok (.getfield 12, 3) := by decide +kernel
theorem dX9_lay_29 : decode cX9_lay 29 = .ok (.getfield 88, 3) := by decide +kernel
theorem dX9_lay_32 : decode cX9_lay 32 = .ok (.iload_n 2, 1) := by decide +kernel
theorem dX9_lay_33 : decode cX9_lay 33 = .ok (.aaload, 1) := by decide +kernel
theorem dX9_lay_34 : decode cX9_lay 34 = .ok (.astore_n 3, 1) := by decide +kernel
theorem dX9_lay_35 : decode cX9_lay 35 = .ok (.aload_n 3, 1) := by decide +kernel
theorem dX9_lay_36 : decode cX9_lay 36 = .ok (.getfield 117, 3) := by decide +kernel
theorem dX9_lay_39 : decode cX9_lay 39 = .ok (.ifCond .lt 10, 3) := by decide +kernel
theorem dX9_lay_42 : decode cX9_lay 42 = .ok (.aload_n 0, 1) := by decide +kernel
theorem dX9_lay_43 : decode cX9_lay 43 = .ok (.ldc 120, 2) := by decide +kernel
theorem dX9_lay_45 : decode cX9_lay 45 = .ok (.invokevirtual 72, 3) := by decide +kernel
theorem dX9_lay_48 : decode cX9_lay 48 = .ok (.ireturn, 1) := by decide +kernel
theorem dX9_lay_49 : decode cX9_lay 49 = .ok (.aload_n 0, 1) := by decide +kernel
theorem dX9_lay_50 : decode cX9_lay 50 = .ok (.getfield 12, 3) := by decide +kernel
theorem dX9_lay_53 : decode cX9_lay 53 = .ok (.getfield 195, 3) := by decide +kernel
theorem dX9_lay_56 : decode cX9_lay 56 = .ok (.iload_n 1, 1) := by decide +kernel
theorem dX9_lay_57 : decode cX9_lay 57 = .ok (.aaload, 1) := by decide +kernel
theorem dX9_lay_58 : decode cX9_lay 58 = .ok (.iload_n 2, 1) := by decide +kernel
theorem dX9_lay_59 : decode cX9_lay 59 = .ok (.invokevirtual 147, 3) := by decide +kernel
theorem dX9_lay_62 : decode cX9_lay 62 = .ok (.ifCond .ne 10, 3) := by decide +kernel
theorem dX9_lay_65 : decode cX9_lay 65 = .ok (.aload_n 0, 1) := by decide +kernel
theorem dX9_lay_66 : decode cX9_lay 66 = .ok (.ldc 146, 2) := by decide +kernel
theorem dX9_lay_68 : decode cX9_lay 68 = .ok (.invokevirtual 72, 3) := by decide +kernel
theorem dX9_lay_71 : decode cX9_lay 71 = .ok (.ireturn, 1) := by decide +kernel
theorem dX9_lay_72 : decode cX9_lay 72 = .ok (.aload_n 3, 1) := by decide +kernel
theorem dX9_lay_73 : decode cX9_lay 73 = .ok (.iload_n 1, 1) := by decide +kernel
theorem dX9_lay_74 : decode cX9_lay 74 = .ok (.putfield 117, 3) := by decide +kernel
theorem dX9_lay_77 : decode cX9_lay 77 = .ok (.aload_n 0, 1) := by decide +kernel
theorem dX9_lay_78 : decode cX9_lay 78 = .ok (.getfield 12, 3) := by decide +kernel
theorem dX9_lay_81 : decode cX9_lay 81 = .ok (.getfield 195, 3) := by decide +kernel
theorem dX9_lay_84 : decode cX9_lay 84 = .ok (.iload_n 1, 1) := by decide +kernel
theorem dX9_lay_85 : decode cX9_lay 85 = .ok (.aaload, 1) := by decide +kernel
theorem dX9_lay_86 : decode cX9_lay 86 = .ok (.getfield 141, 3) := by decide +kernel
theorem dX9_lay_89 : decode cX9_lay 89 = .ok (.ireturn, 1) := by decide +kernel
def fX9_lay_B18 (M : Mm) : Option (Int32 × Mm) :=
  bd (fX9_refuse (-1000000001 : Int32) M) fun r5 M6 =>
  some (r5, M6)
theorem tX9_lay_B18 (l : Launch) (G : Gx) (M : Mm) : Sim cQi l layC G 3 cX9_lay RX9 4 (some .int) 18 [(0, rf G 173)] [] M (fX9_lay_B18 M) := by
  unfold fX9_lay_B18
  refine s_aload_n 0 dX9_lay_18 rfl rfl ?_
  refine s_ldc (v := -1000000001) dX9_lay_19 q_425 ?_
  refine s_call_i (s_runV (ci := 9) (rest := []) rfl rfl (mX9_refuse l G (-1000000001 : Int32) M) ok_X9_refuse k_X9_72 rfl rfl rfl rfl dX9_lay_21) fun r5 M6 => ?_
  exact s_iret rfl dX9_lay_24
def fX9_lay (a1 : Int32) (a2 : Int32) (M : Mm) : Option (Int32 × Mm) :=
  bd (fX9_isPage a1 M) fun r1 M2 =>
  if r1 = true then (bd (fX7_hasLetter a2 M2) fun r3 M4 =>
  if r3 = true then (gd (inb a2 24) <|
  gd (isC layC (4 + 1 * ix a2) 3) <|
  if (M4 (4 + 1 * ix a2) 5) < 0 then (gd (inb a1 4) <|
  gd (isC layC (29 + 2 * ix a1) 5) <|
  bd (fX5_add (29 + 2 * ix a1) a2 M4) fun r11 M12 =>
  if r11 = true then (lt (wr M12 (4 + 1 * ix a2) 5 a1) fun M15 =>
  some (M15 (29 + 2 * ix a1) 1, M15))
  else bd (fX9_refuse (-1000000004 : Int32) M12) fun r13 M14 =>
  some (r13, M14))
  else bd (fX9_refuse (-1000000003 : Int32) M4) fun r16 M17 =>
  some (r16, M17))
  else fX9_lay_B18 M4)
  else fX9_lay_B18 M2
theorem mX9_lay (l : Launch) (G : Gx) (a1 : Int32) (a2 : Int32) (M : Mm) : Mt cQi l layC G 3 yX9_lay cX9_lay 4 (some .int) [rf G 173, .int a1, .int a2] M (fX9_lay a1 a2 M) := by
  refine Mt.of2 (own := RX9) (lv := [(0, rf G 173), (1, .int a1), (2, .int a2)]) rfl (by decide +kernel) rfl rfl ?_
  unfold fX9_lay
  refine s_iload_n 1 dX9_lay_0 rfl rfl ?_
  refine s_call_z (s_runS (rest := []) (mX9_isPage l G a1 M) ok_X9_isPage k_X9_192 rfl rfl rfl rfl dX9_lay_1) fun r1 M2 => ?_
  refine s_ifeqB (tgt := 18) dX9_lay_4 (by decide) ?_ ?_
  · exact s_sub [0] rfl (tX9_lay_B18 l G M2)
  · refine s_aload_n 0 dX9_lay_7 rfl rfl ?_
    refine g_X9_12 (q := 0) rfl rfl dX9_lay_8 ?_
    refine s_iload_n 2 dX9_lay_11 rfl rfl ?_
    refine s_call_z (s_runV (ci := 7) (rest := []) rfl rfl (mX7_hasLetter l G a2 M2) ok_X7_hasLetter k_X9_79 rfl rfl rfl rfl dX9_lay_12) fun r3 M4 => ?_
    refine s_ifneB (tgt := 25) dX9_lay_15 (by decide) ?_ ?_
    · refine s_aload_n 0 dX9_lay_25 rfl rfl ?_
      refine g_X9_12 (q := 0) rfl rfl dX9_lay_26 ?_
      refine g_X9_88 (q := 3) rfl rfl dX9_lay_29 ?_
      refine s_iload_n 2 dX9_lay_32 rfl rfl ?_
      refine s_gd fun h7 => ?_
      refine s_aald (t := 1) (bs := 4) (sd := 1) (n := 24) rfl rfl h7 dX9_lay_33 ?_
      refine s_astore_n (lv' := [(3, rf G (4 + 1 * ix a2)), (0, rf G 173), (1, .int a1), (2, .int a2)]) dX9_lay_34 rfl rfl rfl ?_
      refine s_aload_n 0 dX9_lay_35 rfl rfl ?_
      refine s_gd fun h8 => ?_
      refine g_X9_117 h8 dX9_lay_36 ?_
      refine s_iflt (tgt := 49) dX9_lay_39 (by decide) ?_ ?_
      · refine s_aload_n 1 dX9_lay_49 rfl rfl ?_
        refine g_X9_12 (q := 0) rfl rfl dX9_lay_50 ?_
        refine g_X9_195 (q := 28) rfl rfl dX9_lay_53 ?_
        refine s_iload_n 2 dX9_lay_56 rfl rfl ?_
        refine s_gd fun h9 => ?_
        refine s_aald (t := 2) (bs := 29) (sd := 2) (n := 4) rfl rfl h9 dX9_lay_57 ?_
        refine s_iload_n 3 dX9_lay_58 rfl rfl ?_
        refine s_gd fun h10 => ?_
        refine s_call_z (s_runV (ci := 5) (rest := []) h10 rfl (mX5_add l G (29 + 2 * ix a1) a2 M4) ok_X5_add k_X9_147 rfl rfl rfl rfl dX9_lay_59) fun r11 M12 => ?_
        refine s_ifneB (tgt := 72) dX9_lay_62 (by decide) ?_ ?_
        · refine s_aload_n 0 dX9_lay_72 rfl rfl ?_
          refine s_iload_n 2 dX9_lay_73 rfl rfl ?_
          refine p_X9_117 h8 dX9_lay_74 ?_
          refine s_letM fun M15 => ?_
          refine s_aload_n 1 dX9_lay_77 rfl rfl ?_
          refine g_X9_12 (q := 0) rfl rfl dX9_lay_78 ?_
          refine g_X9_195 (q := 28) rfl rfl dX9_lay_81 ?_
          refine s_iload_n 2 dX9_lay_84 rfl rfl ?_
          refine s_aald (t := 2) (bs := 29) (sd := 2) (n := 4) rfl rfl h9 dX9_lay_85 ?_
          refine g_X9_141 h10 dX9_lay_86 ?_
          exact s_iret rfl dX9_lay_89
        · refine s_aload_n 1 dX9_lay_65 rfl rfl ?_
          refine s_ldc (v := -1000000004) dX9_lay_66 q_516 ?_
          refine s_call_i (s_runV (ci := 9) (rest := []) rfl rfl (mX9_refuse l G (-1000000004 : Int32) M12) ok_X9_refuse k_X9_72 rfl rfl rfl rfl dX9_lay_68) fun r13 M14 => ?_
          exact s_iret rfl dX9_lay_71
      · refine s_aload_n 1 dX9_lay_42 rfl rfl ?_
        refine s_ldc (v := -1000000003) dX9_lay_43 q_493 ?_
        refine s_call_i (s_runV (ci := 9) (rest := []) rfl rfl (mX9_refuse l G (-1000000003 : Int32) M4) ok_X9_refuse k_X9_72 rfl rfl rfl rfl dX9_lay_45) fun r16 M17 => ?_
        exact s_iret rfl dX9_lay_48
    · exact s_sub [0] rfl (tX9_lay_B18 l G M4)
theorem dX9_sort_0 : decode cX9_sort 0 = .ok (.iload_n 1, 1) := by decide +kernel
theorem dX9_sort_1 : decode cX9_sort 1 = .ok (.invokestatic 192, 3) := by decide +kernel
theorem dX9_sort_4 : decode cX9_sort 4 = .ok (.ifCond .eq 14, 3) := by decide +kernel
theorem dX9_sort_7 : decode cX9_sort 7 = .ok (.aload_n 0, 1) := by decide +kernel
theorem dX9_sort_8 : decode cX9_sort 8 = .ok (.getfield 12, 3) := by decide +kernel
theorem dX9_sort_11 : decode cX9_sort 11 = .ok (.iload_n 1, 1) := by decide +kernel
theorem dX9_sort_12 : decode cX9_sort 12 = .ok (.invokevirtual 198, 3) := by decide +kernel
theorem dX9_sort_15 : decode cX9_sort 15 = .ok (.goto 9, 3) := by decide +kernel
theorem dX9_sort_18 : decode cX9_sort 18 = .ok (.aload_n 0, 1) := by decide +kernel
theorem dX9_sort_19 : decode cX9_sort 19 = .ok (.ldc 87, 2) := by decide +kernel
theorem dX9_sort_21 : decode cX9_sort 21 = .ok (.invokevirtual 72, 3) := by decide +kernel
theorem dX9_sort_24 : decode cX9_sort 24 = .ok (.ireturn, 1) := by decide +kernel
def fX9_sort_B24 (w0 : Int32) (M : Mm) : Option (Int32 × Mm) :=
  some (w0, M)
theorem tX9_sort_B24 (l : Launch) (G : Gx) (w0 : Int32) (M : Mm) : Sim cQi l layC G 5 cX9_sort RX9 2 (some .int) 24 [] [.int w0] M (fX9_sort_B24 w0 M) := by
  unfold fX9_sort_B24
  exact s_iret rfl dX9_sort_24
def fX9_sort (a1 : Int32) (M : Mm) : Option (Int32 × Mm) :=
  bd (fX9_isPage a1 M) fun r1 M2 =>
  if r1 = true then (bd (fX7_emptyPage a1 M2) fun r3 M4 =>
  fX9_sort_B24 r3 M4)
  else bd (fX9_refuse (-1000000001 : Int32) M2) fun r5 M6 =>
  fX9_sort_B24 r5 M6
theorem mX9_sort (l : Launch) (G : Gx) (a1 : Int32) (M : Mm) : Mt cQi l layC G 5 yX9_sort cX9_sort 2 (some .int) [rf G 173, .int a1] M (fX9_sort a1 M) := by
  refine Mt.of2 (own := RX9) (lv := [(0, rf G 173), (1, .int a1)]) rfl (by decide +kernel) rfl rfl ?_
  unfold fX9_sort
  refine s_iload_n 1 dX9_sort_0 rfl rfl ?_
  refine s_call_z (s_runS (rest := []) (mX9_isPage l G a1 M) ok_X9_isPage k_X9_192 rfl rfl rfl rfl dX9_sort_1) fun r1 M2 => ?_
  refine s_ifeqB (tgt := 18) dX9_sort_4 (by decide) ?_ ?_
  · refine s_aload_n 0 dX9_sort_18 rfl rfl ?_
    refine s_ldc (v := -1000000001) dX9_sort_19 q_425 ?_
    refine s_call_i (s_runV (ci := 9) (rest := []) rfl rfl (mX9_refuse l G (-1000000001 : Int32) M2) ok_X9_refuse k_X9_72 rfl rfl rfl rfl dX9_sort_21) fun r5 M6 => ?_
    exact s_sub [] rfl (tX9_sort_B24 l G r5 M6)
  · refine s_aload_n 0 dX9_sort_7 rfl rfl ?_
    refine g_X9_12 (q := 0) rfl rfl dX9_sort_8 ?_
    refine s_iload_n 1 dX9_sort_11 rfl rfl ?_
    refine s_call_i (s_runV (ci := 7) (rest := []) rfl rfl (mX7_emptyPage l G a1 M2) ok_X7_emptyPage k_X9_198 rfl rfl rfl rfl dX9_sort_12) fun r3 M4 => ?_
    refine s_goto (tgt := 24) dX9_sort_15 (by decide) ?_
    exact s_sub [] rfl (tX9_sort_B24 l G r3 M4)
theorem dX9_pageIs_0 : decode cX9_pageIs 0 = .ok (.iload_n 1, 1) := by decide +kernel
theorem dX9_pageIs_1 : decode cX9_pageIs 1 = .ok (.invokestatic 192, 3) := by decide +kernel
theorem dX9_pageIs_4 : decode cX9_pageIs 4 = .ok (.ifCond .eq 13, 3) := by decide +kernel
theorem dX9_pageIs_7 : decode cX9_pageIs 7 = .ok (.iload_n 2, 1) := by decide +kernel
theorem dX9_pageIs_8 : decode cX9_pageIs 8 = .ok (.iconst 0, 1) := by decide +kernel
theorem dX9_pageIs_9 : decode cX9_pageIs 9 = .ok (.bipush 10, 2) := by decide +kernel
theorem dX9_pageIs_11 : decode cX9_pageIs 11 = .ok (.invokestatic 83, 3) := by decide +kernel
theorem dX9_pageIs_14 : decode cX9_pageIs 14 = .ok (.ifCond .ne 10, 3) := by decide +kernel
theorem dX9_pageIs_17 : decode cX9_pageIs 17 = .ok (.aload_n 0, 1) := by decide +kernel
theorem dX9_pageIs_18 : decode cX9_pageIs 18 = .ok (.ldc 87, 2) := by decide +kernel
theorem dX9_pageIs_20 : decode cX9_pageIs 20 = .ok (.invokevirtual 72, 3) := by decide +kernel
theorem dX9_pageIs_23 : decode cX9_pageIs 23 = .ok (.ireturn, 1) := by decide +kernel
theorem dX9_pageIs_24 : decode cX9_pageIs 24 = .ok (.aload_n 0, 1) := by decide +kernel
theorem dX9_pageIs_25 : decode cX9_pageIs 25 = .ok (.getfield 12, 3) := by decide +kernel
theorem dX9_pageIs_28 : decode cX9_pageIs 28 = .ok (.getfield 195, 3) := by decide +kernel
theorem dX9_pageIs_31 : decode cX9_pageIs 31 = .ok (.iload_n 1, 1) := by decide +kernel
theorem dX9_pageIs_32 : decode cX9_pageIs 32 = .ok (.aaload, 1) := by decide +kernel
theorem dX9_pageIs_33 : decode cX9_pageIs 33 = .ok (.astore_n 3, 1) := by decide +kernel
theorem dX9_pageIs_34 : decode cX9_pageIs 34 = .ok (.iload_n 2, 1) := by decide +kernel
theorem dX9_pageIs_35 : decode cX9_pageIs 35 = .ok (.tableswitch 49 0 2 #[25, 30, 40], 25) := by decide +kernel
theorem dX9_pageIs_60 : decode cX9_pageIs 60 = .ok (.aload_n 3, 1) := by decide +kernel
theorem dX9_pageIs_61 : decode cX9_pageIs 61 = .ok (.getfield 141, 3) := by decide +kernel
theorem dX9_pageIs_64 : decode cX9_pageIs 64 = .ok (.ireturn, 1) := by decide +kernel
theorem dX9_pageIs_65 : decode cX9_pageIs 65 = .ok (.aload_n 0, 1) := by decide +kernel
theorem dX9_pageIs_66 : decode cX9_pageIs 66 = .ok (.getfield 12, 3) := by decide +kernel
theorem dX9_pageIs_69 : decode cX9_pageIs 69 = .ok (.getfield 201, 3) := by decide +kernel
theorem dX9_pageIs_72 : decode cX9_pageIs 72 = .ok (.iload_n 1, 1) := by decide +kernel
theorem dX9_pageIs_73 : decode cX9_pageIs 73 = .ok (.iaload, 1) := by decide +kernel
theorem dX9_pageIs_74 : decode cX9_pageIs 74 = .ok (.ireturn, 1) := by decide +kernel
theorem dX9_pageIs_75 : decode cX9_pageIs 75 = .ok (.aload_n 0, 1) := by decide +kernel
theorem dX9_pageIs_76 : decode cX9_pageIs 76 = .ok (.getfield 12, 3) := by decide +kernel
theorem dX9_pageIs_79 : decode cX9_pageIs 79 = .ok (.iload_n 1, 1) := by decide +kernel
theorem dX9_pageIs_80 : decode cX9_pageIs 80 = .ok (.invokevirtual 204, 3) := by decide +kernel
theorem dX9_pageIs_83 : decode cX9_pageIs 83 = .ok (.ireturn, 1) := by decide +kernel
theorem dX9_pageIs_84 : decode cX9_pageIs 84 = .ok (.iload_n 2, 1) := by decide +kernel
theorem dX9_pageIs_85 : decode cX9_pageIs 85 = .ok (.iconst 3, 1) := by decide +kernel
theorem dX9_pageIs_86 : decode cX9_pageIs 86 = .ok (.isub, 1) := by decide +kernel
theorem dX9_pageIs_87 : decode cX9_pageIs 87 = .ok (.aload_n 3, 1) := by decide +kernel
theorem dX9_pageIs_88 : decode cX9_pageIs 88 = .ok (.getfield 141, 3) := by decide +kernel
theorem dX9_pageIs_91 : decode cX9_pageIs 91 = .ok (.if_icmp .ge 13, 3) := by decide +kernel
theorem dX9_pageIs_94 : decode cX9_pageIs 94 = .ok (.aload_n 3, 1) := by decide +kernel
theorem dX9_pageIs_95 : decode cX9_pageIs 95 = .ok (.iload_n 2, 1) := by decide +kernel
theorem dX9_pageIs_96 : decode cX9_pageIs 96 = .ok (.iconst 3, 1) := by decide +kernel
theorem dX9_pageIs_97 : decode cX9_pageIs 97 = .ok (.isub, 1) := by decide +kernel
theorem dX9_pageIs_98 : decode cX9_pageIs 98 = .ok (.invokevirtual 207, 3) := by decide +kernel
theorem dX9_pageIs_101 : decode cX9_pageIs 101 = .ok (.goto 4, 3) := by decide +kernel
theorem dX9_pageIs_104 : decode cX9_pageIs 104 = .ok (.iconst (-1), 1) := by decide +kernel
theorem dX9_pageIs_105 : decode cX9_pageIs 105 = .ok (.ireturn, 1) := by decide +kernel
def fX9_pageIs_B17 (M : Mm) : Option (Int32 × Mm) :=
  bd (fX9_refuse (-1000000001 : Int32) M) fun r5 M6 =>
  some (r5, M6)
theorem tX9_pageIs_B17 (l : Launch) (G : Gx) (M : Mm) : Sim cQi l layC G 5 cX9_pageIs RX9 4 (some .int) 17 [(0, rf G 173)] [] M (fX9_pageIs_B17 M) := by
  unfold fX9_pageIs_B17
  refine s_aload_n 0 dX9_pageIs_17 rfl rfl ?_
  refine s_ldc (v := -1000000001) dX9_pageIs_18 q_425 ?_
  refine s_call_i (s_runV (ci := 9) (rest := []) rfl rfl (mX9_refuse l G (-1000000001 : Int32) M) ok_X9_refuse k_X9_72 rfl rfl rfl rfl dX9_pageIs_20) fun r5 M6 => ?_
  exact s_iret rfl dX9_pageIs_23
def fX9_pageIs_B105 (w0 : Int32) (M : Mm) : Option (Int32 × Mm) :=
  some (w0, M)
theorem tX9_pageIs_B105 (l : Launch) (G : Gx) (w0 : Int32) (M : Mm) : Sim cQi l layC G 5 cX9_pageIs RX9 4 (some .int) 105 [] [.int w0] M (fX9_pageIs_B105 w0 M) := by
  unfold fX9_pageIs_B105
  exact s_iret rfl dX9_pageIs_105
def fX9_pageIs (a1 : Int32) (a2 : Int32) (M : Mm) : Option (Int32 × Mm) :=
  bd (fX9_isPage a1 M) fun r1 M2 =>
  if r1 = true then (bd (fX9_isWithin a2 (0 : Int32) (10 : Int32) M2) fun r3 M4 =>
  if r3 = true then (gd (inb a1 4) <|
  if a2 = 0 then (gd (isC layC (29 + 2 * ix a1) 5) <|
  some (M4 (29 + 2 * ix a1) 1, M4))
  else if a2 = 1 then (some (M4 2 (ix a1), M4))
  else if a2 = 2 then (bd (fX7_seenOf a1 M4) fun r9 M10 =>
  some (r9, M10))
  else gd (isC layC (29 + 2 * ix a1) 5) <|
  if (M4 (29 + 2 * ix a1) 1) ≤ (a2 - (3 : Int32)) then (fX9_pageIs_B105 (-1 : Int32) M4)
  else bd (fX5_at (29 + 2 * ix a1) (a2 - (3 : Int32)) M4) fun r12 M13 =>
  fX9_pageIs_B105 r12 M13)
  else fX9_pageIs_B17 M4)
  else fX9_pageIs_B17 M2
theorem mX9_pageIs (l : Launch) (G : Gx) (a1 : Int32) (a2 : Int32) (M : Mm) : Mt cQi l layC G 5 yX9_pageIs cX9_pageIs 4 (some .int) [rf G 173, .int a1, .int a2] M (fX9_pageIs a1 a2 M) := by
  refine Mt.of2 (own := RX9) (lv := [(0, rf G 173), (1, .int a1), (2, .int a2)]) rfl (by decide +kernel) rfl rfl ?_
  unfold fX9_pageIs
  refine s_iload_n 1 dX9_pageIs_0 rfl rfl ?_
  refine s_call_z (s_runS (rest := []) (mX9_isPage l G a1 M) ok_X9_isPage k_X9_192 rfl rfl rfl rfl dX9_pageIs_1) fun r1 M2 => ?_
  refine s_ifeqB (tgt := 17) dX9_pageIs_4 (by decide) ?_ ?_
  · exact s_sub [0] rfl (tX9_pageIs_B17 l G M2)
  · refine s_iload_n 2 dX9_pageIs_7 rfl rfl ?_
    refine s_iconst (v := 0) dX9_pageIs_8 ci_0 ?_
    refine s_bipush (v := 10) dX9_pageIs_9 cb_10 ?_
    refine s_call_z (s_runS (rest := []) (mX9_isWithin l G a2 (0 : Int32) (10 : Int32) M2) ok_X9_isWithin k_X9_83 rfl rfl rfl rfl dX9_pageIs_11) fun r3 M4 => ?_
    refine s_ifneB (tgt := 24) dX9_pageIs_14 (by decide) ?_ ?_
    · refine s_aload_n 0 dX9_pageIs_24 rfl rfl ?_
      refine g_X9_12 (q := 0) rfl rfl dX9_pageIs_25 ?_
      refine g_X9_195 (q := 28) rfl rfl dX9_pageIs_28 ?_
      refine s_iload_n 1 dX9_pageIs_31 rfl rfl ?_
      refine s_gd fun h7 => ?_
      refine s_aald (t := 2) (bs := 29) (sd := 2) (n := 4) rfl rfl h7 dX9_pageIs_32 ?_
      refine s_astore_n (lv' := [(3, rf G (29 + 2 * ix a1)), (0, rf G 173), (1, .int a1), (2, .int a2)]) dX9_pageIs_33 rfl rfl rfl ?_
      refine s_iload_n 3 dX9_pageIs_34 rfl rfl ?_
      refine s_table (tgt := 84) dX9_pageIs_35 (by decide) (by decide) (by decide) ?_
      refine lk_cons (k := 0) (tgt := 60) (by decide) (by decide) ?_ ?_
      · refine s_aload_n 0 dX9_pageIs_60 rfl rfl ?_
        refine s_gd fun h8 => ?_
        refine g_X9_141 h8 dX9_pageIs_61 ?_
        exact s_iret rfl dX9_pageIs_64
      refine lk_cons (k := 1) (tgt := 65) (by decide) (by decide) ?_ ?_
      · refine s_aload_n 1 dX9_pageIs_65 rfl rfl ?_
        refine g_X9_12 (q := 0) rfl rfl dX9_pageIs_66 ?_
        refine g_X9_201 (q := 2) rfl rfl dX9_pageIs_69 ?_
        refine s_iload_n 2 dX9_pageIs_72 rfl rfl ?_
        refine s_iald (n := 4) rfl h7 dX9_pageIs_73 ?_
        exact s_iret rfl dX9_pageIs_74
      refine lk_cons (k := 2) (tgt := 75) (by decide) (by decide) ?_ ?_
      · refine s_aload_n 1 dX9_pageIs_75 rfl rfl ?_
        refine g_X9_12 (q := 0) rfl rfl dX9_pageIs_76 ?_
        refine s_iload_n 2 dX9_pageIs_79 rfl rfl ?_
        refine s_call_i (s_runV (ci := 7) (rest := []) rfl rfl (mX7_seenOf l G a1 M4) ok_X7_seenOf k_X9_204 rfl rfl rfl rfl dX9_pageIs_80) fun r9 M10 => ?_
        exact s_iret rfl dX9_pageIs_83
      refine lk_nil (tgt := 84) (by decide) ?_
      refine s_iload_n 3 dX9_pageIs_84 rfl rfl ?_
      refine s_iconst (v := 3) dX9_pageIs_85 ci_3 ?_
      refine s_isub dX9_pageIs_86 ?_
      refine s_aload_n 0 dX9_pageIs_87 rfl rfl ?_
      refine s_gd fun h11 => ?_
      refine g_X9_141 h11 dX9_pageIs_88 ?_
      refine s_icmpge (tgt := 104) dX9_pageIs_91 (by decide) ?_ ?_
      · refine s_iconst (v := -1) dX9_pageIs_104 ci_m1 ?_
        exact s_sub [] rfl (tX9_pageIs_B105 l G (-1 : Int32) M4)
      · refine s_aload_n 0 dX9_pageIs_94 rfl rfl ?_
        refine s_iload_n 3 dX9_pageIs_95 rfl rfl ?_
        refine s_iconst (v := 3) dX9_pageIs_96 ci_3 ?_
        refine s_isub dX9_pageIs_97 ?_
        refine s_call_i (s_runV (ci := 5) (rest := []) h11 rfl (mX5_at l G (29 + 2 * ix a1) (a2 - (3 : Int32)) M4) ok_X5_at k_X9_207 rfl rfl rfl rfl dX9_pageIs_98) fun r12 M13 => ?_
        refine s_goto (tgt := 105) dX9_pageIs_101 (by decide) ?_
        exact s_sub [] rfl (tX9_pageIs_B105 l G r12 M13)
    · exact s_sub [0] rfl (tX9_pageIs_B17 l G M4)
theorem dX9_press_0 : decode cX9_press 0 = .ok (.iload_n 1, 1) := by decide +kernel
theorem dX9_press_1 : decode cX9_press 1 = .ok (.invokestatic 192, 3) := by decide +kernel
theorem dX9_press_4 : decode cX9_press 4 = .ok (.ifCond .eq 13, 3) := by decide +kernel
theorem dX9_press_7 : decode cX9_press 7 = .ok (.iload_n 2, 1) := by decide +kernel
theorem dX9_press_8 : decode cX9_press 8 = .ok (.iconst 1, 1) := by decide +kernel
theorem dX9_press_9 : decode cX9_press 9 = .ok (.bipush 99, 2) := by decide +kernel
theorem dX9_press_11 : decode cX9_press 11 = .ok (.invokestatic 83, 3) := by decide +kernel
theorem dX9_press_14 : decode cX9_press 14 = .ok (.ifCond .ne 10, 3) := by decide +kernel
theorem dX9_press_17 : decode cX9_press 17 = .ok (.aload_n 0, 1) := by decide +kernel
theorem dX9_press_18 : decode cX9_press 18 = .ok (.ldc 87, 2) := by decide +kernel
theorem dX9_press_20 : decode cX9_press 20 = .ok (.invokevirtual 72, 3) := by decide +kernel
theorem dX9_press_23 : decode cX9_press 23 = .ok (.ireturn, 1) := by decide +kernel
theorem dX9_press_24 : decode cX9_press 24 = .ok (.aload_n 0, 1) := by decide +kernel
theorem dX9_press_25 : decode cX9_press 25 = .ok (.getfield 12, 3) := by decide +kernel
theorem dX9_press_28 : decode cX9_press 28 = .ok (.getfield 201, 3) := by decide +kernel
theorem dX9_press_31 : decode cX9_press 31 = .ok (.iload_n 1, 1) := by decide +kernel
theorem dX9_press_32 : decode cX9_press 32 = .ok (.iaload, 1) := by decide +kernel
theorem dX9_press_33 : decode cX9_press 33 = .ok (.iload_n 2, 1) := by decide +kernel
theorem dX9_press_34 : decode cX9_press 34 = .ok (.iadd, 1) := by decide +kernel
theorem dX9_press_35 : decode cX9_press 35 = .ok (.sipush 9999, 3) := by decide +kernel
theorem dX9_press_38 : decode cX9_press 38 = .ok (.if_icmp .le 10, 3) := by decide +kernel
theorem dX9_press_41 : decode cX9_press 41 = .ok (.aload_n 0, 1) := by decide +kernel
theorem dX9_press_42 : decode cX9_press 42 = .ok (.ldc 120, 2) := by decide +kernel
theorem dX9_press_44 : decode cX9_press 44 = .ok (.invokevirtual 72, 3) := by decide +kernel
theorem dX9_press_47 : decode cX9_press 47 = .ok (.ireturn, 1) := by decide +kernel
theorem dX9_press_48 : decode cX9_press 48 = .ok (.iconst 0, 1) := by decide +kernel
theorem dX9_press_49 : decode cX9_press 49 = .ok (.istore_n 3, 1) := by decide +kernel
theorem dX9_press_50 : decode cX9_press 50 = .ok (.iconst 0, 1) := by decide +kernel
theorem dX9_press_51 : decode cX9_press 51 = .ok (.istore 4, 2) := by decide +kernel
theorem dX9_press_53 : decode cX9_press 53 = .ok (.iload 4, 2) := by decide +kernel
theorem dX9_press_55 : decode cX9_press 55 = .ok (.iload_n 2, 1) := by decide +kernel
theorem dX9_press_56 : decode cX9_press 56 = .ok (.if_icmp .ge 28, 3) := by decide +kernel
theorem dX9_press_59 : decode cX9_press 59 = .ok (.iload_n 3, 1) := by decide +kernel
theorem dX9_press_60 : decode cX9_press 60 = .ok (.aload_n 0, 1) := by decide +kernel
theorem dX9_press_61 : decode cX9_press 61 = .ok (.getfield 12, 3) := by decide +kernel
theorem dX9_press_64 : decode cX9_press 64 = .ok (.iload_n 1, 1) := by decide +kernel
theorem dX9_press_65 : decode cX9_press 65 = .ok (.invokevirtual 210, 3) := by decide +kernel
theorem dX9_press_68 : decode cX9_press 68 = .ok (.ifCond .eq 7, 3) := by decide +kernel
theorem dX9_press_71 : decode cX9_press 71 = .ok (.iconst 1, 1) := by decide +kernel
theorem dX9_press_72 : decode cX9_press 72 = .ok (.goto 4, 3) := by decide +kernel
theorem dX9_press_75 : decode cX9_press 75 = .ok (.iconst 0, 1) := by decide +kernel
theorem dX9_press_76 : decode cX9_press 76 = .ok (.iadd, 1) := by decide +kernel
theorem dX9_press_77 : decode cX9_press 77 = .ok (.istore_n 3, 1) := by decide +kernel
theorem dX9_press_78 : decode cX9_press 78 = .ok (.iinc 4 1, 3) := by decide +kernel
theorem dX9_press_81 : decode cX9_press 81 = .ok (.goto (-28), 3) := by decide +kernel
theorem dX9_press_84 : decode cX9_press 84 = .ok (.iload_n 3, 1) := by decide +kernel
theorem dX9_press_85 : decode cX9_press 85 = .ok (.ireturn, 1) := by decide +kernel
def fX9_press_B17 (M : Mm) : Option (Int32 × Mm) :=
  bd (fX9_refuse (-1000000001 : Int32) M) fun r5 M6 =>
  some (r5, M6)
theorem tX9_press_B17 (l : Launch) (G : Gx) (M : Mm) : Sim cQi l layC G 6 cX9_press RX9 5 (some .int) 17 [(0, rf G 173)] [] M (fX9_press_B17 M) := by
  unfold fX9_press_B17
  refine s_aload_n 0 dX9_press_17 rfl rfl ?_
  refine s_ldc (v := -1000000001) dX9_press_18 q_425 ?_
  refine s_call_i (s_runV (ci := 9) (rest := []) rfl rfl (mX9_refuse l G (-1000000001 : Int32) M) ok_X9_refuse k_X9_72 rfl rfl rfl rfl dX9_press_20) fun r5 M6 => ?_
  exact s_iret rfl dX9_press_23
def fX9_press_B84 (v3 : Int32) (M : Mm) : Option (Int32 × Mm) :=
  some (v3, M)
theorem tX9_press_B84 (l : Launch) (G : Gx) (v3 : Int32) (M : Mm) : Sim cQi l layC G 6 cX9_press RX9 5 (some .int) 84 [(3, .int v3)] [] M (fX9_press_B84 v3 M) := by
  unfold fX9_press_B84
  refine s_iload_n 0 dX9_press_84 rfl rfl ?_
  exact s_iret rfl dX9_press_85
def fX9_press_B76 (q53 : Int32 → Int32 → Mm → Option (Int32 × Mm)) (v4 : Int32) (v1 : Int32) (v2 : Int32) (w0 : Int32) (w1 : Int32) (M : Mm) : Option (Int32 × Mm) :=
  lt (w1 + w0) fun x10 =>
  q53 (v4 + 1) x10 M
theorem tX9_press_B76 (l : Launch) (G : Gx) (v4 : Int32) (v1 : Int32) (v2 : Int32) (w0 : Int32) (w1 : Int32) (q53 : Int32 → Int32 → Mm → Option (Int32 × Mm)) (hq53 : ∀ (v4 : Int32) (v3 : Int32) (M : Mm), Sim cQi l layC G 6 cX9_press RX9 5 (some .int) 53 [(4, .int v4), (3, .int v3), (0, rf G 173), (1, .int v1), (2, .int v2)] [] M (q53 v4 v3 M)) (M : Mm) : Sim cQi l layC G 6 cX9_press RX9 5 (some .int) 76 [(4, .int v4), (0, rf G 173), (1, .int v1), (2, .int v2)] [.int w0, .int w1] M (fX9_press_B76 q53 v4 v1 v2 w0 w1 M) := by
  unfold fX9_press_B76
  refine s_iadd dX9_press_76 ?_
  refine s_leti fun x10 => ?_
  refine s_istore_n (lv' := [(3, .int x10), (4, .int v4), (0, rf G 173), (1, .int v1), (2, .int v2)]) dX9_press_77 rfl rfl rfl ?_
  refine s_iinc (k := 1) (lv' := [(4, .int (v4 + 1)), (3, .int x10), (0, rf G 173), (1, .int v1), (2, .int v2)]) dX9_press_78 rfl ci_1 rfl rfl ?_
  refine s_goto (tgt := 53) dX9_press_81 (by decide) ?_
  exact s_sub [0, 1, 2, 3, 4] rfl (hq53 (v4 + 1) x10 M)
def fX9_press_L53b (v1 : Int32) (v2 : Int32) (q53 : Int32 → Int32 → Mm → Option (Int32 × Mm)) (v4 : Int32) (v3 : Int32) (M : Mm) : Option (Int32 × Mm) :=
  if v2 ≤ v4 then (fX9_press_B84 v3 M)
  else bd (fX7_pressSheet v1 M) fun r8 M9 =>
  if r8 = true then (fX9_press_B76 q53 v4 v1 v2 (1 : Int32) v3 M9)
  else fX9_press_B76 q53 v4 v1 v2 (0 : Int32) v3 M9
def fX9_press_L53 (v1 : Int32) (v2 : Int32) : Nat → Int32 → Int32 → Mm → Option (Int32 × Mm)
  | 0 => fun _ _ _ => none
  | n + 1 => fX9_press_L53b v1 v2 (fX9_press_L53 v1 v2 n)
theorem tX9_press_L53b (l : Launch) (G : Gx) (v1 : Int32) (v2 : Int32) (q53 : Int32 → Int32 → Mm → Option (Int32 × Mm)) (hq53 : ∀ (v4 : Int32) (v3 : Int32) (M : Mm), Sim cQi l layC G 6 cX9_press RX9 5 (some .int) 53 [(4, .int v4), (3, .int v3), (0, rf G 173), (1, .int v1), (2, .int v2)] [] M (q53 v4 v3 M)) (v4 : Int32) (v3 : Int32) (M : Mm) : Sim cQi l layC G 6 cX9_press RX9 5 (some .int) 53 [(4, .int v4), (3, .int v3), (0, rf G 173), (1, .int v1), (2, .int v2)] [] M (fX9_press_L53b v1 v2 q53 v4 v3 M) := by
  unfold fX9_press_L53b
  refine s_iload 0 dX9_press_53 rfl ?_
  refine s_iload_n 4 dX9_press_55 rfl rfl ?_
  refine s_icmpge (tgt := 84) dX9_press_56 (by decide) ?_ ?_
  · exact s_sub [1] rfl (tX9_press_B84 l G v3 M)
  · refine s_iload_n 1 dX9_press_59 rfl rfl ?_
    refine s_aload_n 2 dX9_press_60 rfl rfl ?_
    refine g_X9_12 (q := 0) rfl rfl dX9_press_61 ?_
    refine s_iload_n 3 dX9_press_64 rfl rfl ?_
    refine s_call_z (s_runV (ci := 7) (rest := [.int v3]) rfl rfl (mX7_pressSheet l G v1 M) ok_X7_pressSheet k_X9_210 rfl rfl rfl rfl dX9_press_65) fun r8 M9 => ?_
    refine s_ifeqB (tgt := 75) dX9_press_68 (by decide) ?_ ?_
    · refine s_iconst (v := 0) dX9_press_75 ci_0 ?_
      exact s_sub [0, 2, 3, 4] rfl (tX9_press_B76 l G v4 v1 v2 (0 : Int32) v3 q53 hq53 M9)
    · refine s_iconst (v := 1) dX9_press_71 ci_1 ?_
      refine s_goto (tgt := 76) dX9_press_72 (by decide) ?_
      exact s_sub [0, 2, 3, 4] rfl (tX9_press_B76 l G v4 v1 v2 (1 : Int32) v3 q53 hq53 M9)
theorem tX9_press_L53 (l : Launch) (G : Gx) (v1 : Int32) (v2 : Int32) : ∀ (n : Nat) (v4 : Int32) (v3 : Int32) (M : Mm), Sim cQi l layC G 6 cX9_press RX9 5 (some .int) 53 [(4, .int v4), (3, .int v3), (0, rf G 173), (1, .int v1), (2, .int v2)] [] M (fX9_press_L53 v1 v2 n v4 v3 M)
  | 0, _, _, _ => s_none
  | n + 1, v4, v3, M => tX9_press_L53b l G v1 v2 _ (tX9_press_L53 l G v1 v2 n) v4 v3 M
def fX9_press (a1 : Int32) (a2 : Int32) (M : Mm) : Option (Int32 × Mm) :=
  bd (fX9_isPage a1 M) fun r1 M2 =>
  if r1 = true then (bd (fX9_isWithin a2 (1 : Int32) (99 : Int32) M2) fun r3 M4 =>
  if r3 = true then (gd (inb a1 4) <|
  if ((M4 2 (ix a1)) + a2) ≤ (9999 : Int32) then (fX9_press_L53 a1 a2 FU (0 : Int32) (0 : Int32) M4)
  else bd (fX9_refuse (-1000000003 : Int32) M4) fun r11 M12 =>
  some (r11, M12))
  else fX9_press_B17 M4)
  else fX9_press_B17 M2
theorem mX9_press (l : Launch) (G : Gx) (a1 : Int32) (a2 : Int32) (M : Mm) : Mt cQi l layC G 6 yX9_press cX9_press 5 (some .int) [rf G 173, .int a1, .int a2] M (fX9_press a1 a2 M) := by
  refine Mt.of2 (own := RX9) (lv := [(0, rf G 173), (1, .int a1), (2, .int a2)]) rfl (by decide +kernel) rfl rfl ?_
  unfold fX9_press
  refine s_iload_n 1 dX9_press_0 rfl rfl ?_
  refine s_call_z (s_runS (rest := []) (mX9_isPage l G a1 M) ok_X9_isPage k_X9_192 rfl rfl rfl rfl dX9_press_1) fun r1 M2 => ?_
  refine s_ifeqB (tgt := 17) dX9_press_4 (by decide) ?_ ?_
  · exact s_sub [0] rfl (tX9_press_B17 l G M2)
  · refine s_iload_n 2 dX9_press_7 rfl rfl ?_
    refine s_iconst (v := 1) dX9_press_8 ci_1 ?_
    refine s_bipush (v := 99) dX9_press_9 cb_99 ?_
    refine s_call_z (s_runS (rest := []) (mX9_isWithin l G a2 (1 : Int32) (99 : Int32) M2) ok_X9_isWithin k_X9_83 rfl rfl rfl rfl dX9_press_11) fun r3 M4 => ?_
    refine s_ifneB (tgt := 24) dX9_press_14 (by decide) ?_ ?_
    · refine s_aload_n 0 dX9_press_24 rfl rfl ?_
      refine g_X9_12 (q := 0) rfl rfl dX9_press_25 ?_
      refine g_X9_201 (q := 2) rfl rfl dX9_press_28 ?_
      refine s_iload_n 1 dX9_press_31 rfl rfl ?_
      refine s_gd fun h7 => ?_
      refine s_iald (n := 4) rfl h7 dX9_press_32 ?_
      refine s_iload_n 2 dX9_press_33 rfl rfl ?_
      refine s_iadd dX9_press_34 ?_
      refine s_sipush (v := 9999) dX9_press_35 cs_9999 ?_
      refine s_icmple (tgt := 48) dX9_press_38 (by decide) ?_ ?_
      · refine s_iconst (v := 0) dX9_press_48 ci_0 ?_
        refine s_istore_n (lv' := [(3, .int (0 : Int32)), (0, rf G 173), (1, .int a1), (2, .int a2)]) dX9_press_49 rfl rfl rfl ?_
        refine s_iconst (v := 0) dX9_press_50 ci_0 ?_
        refine s_istore (lv' := [(4, .int (0 : Int32)), (3, .int (0 : Int32)), (0, rf G 173), (1, .int a1), (2, .int a2)]) dX9_press_51 rfl rfl ?_
        exact s_sub [0, 1, 2, 3, 4] rfl (tX9_press_L53 l G a1 a2 FU (0 : Int32) (0 : Int32) M4)
      · refine s_aload_n 0 dX9_press_41 rfl rfl ?_
        refine s_ldc (v := -1000000003) dX9_press_42 q_493 ?_
        refine s_call_i (s_runV (ci := 9) (rest := []) rfl rfl (mX9_refuse l G (-1000000003 : Int32) M4) ok_X9_refuse k_X9_72 rfl rfl rfl rfl dX9_press_44) fun r11 M12 => ?_
        exact s_iret rfl dX9_press_47
    · exact s_sub [0] rfl (tX9_press_B17 l G M4)
theorem dX9_run_0 : decode cX9_run 0 = .ok (.iload_n 1, 1) := by decide +kernel
theorem dX9_run_1 : decode cX9_run 1 = .ok (.invokestatic 192, 3) := by decide +kernel
theorem dX9_run_4 : decode cX9_run 4 = .ok (.ifCond .eq 13, 3) := by decide +kernel
theorem dX9_run_7 : decode cX9_run 7 = .ok (.iload_n 2, 1) := by decide +kernel
theorem dX9_run_8 : decode cX9_run 8 = .ok (.iconst 0, 1) := by decide +kernel
theorem dX9_run_9 : decode cX9_run 9 = .ok (.bipush 99, 2) := by decide +kernel
theorem dX9_run_11 : decode cX9_run 11 = .ok (.invokestatic 83, 3) := by decide +kernel
theorem dX9_run_14 : decode cX9_run 14 = .ok (.ifCond .ne 10, 3) := by decide +kernel
theorem dX9_run_17 : decode cX9_run 17 = .ok (.aload_n 0, 1) := by decide +kernel
theorem dX9_run_18 : decode cX9_run 18 = .ok (.ldc 87, 2) := by decide +kernel
theorem dX9_run_20 : decode cX9_run 20 = .ok (.invokevirtual 72, 3) := by decide +kernel
theorem dX9_run_23 : decode cX9_run 23 = .ok (.ireturn, 1) := by decide +kernel
theorem dX9_run_24 : decode cX9_run 24 = .ok (.aload_n 0, 1) := by decide +kernel
theorem dX9_run_25 : decode cX9_run 25 = .ok (.getfield 24, 3) := by decide +kernel
theorem dX9_run_28 : decode cX9_run 28 = .ok (.iload_n 1, 1) := by decide +kernel
theorem dX9_run_29 : decode cX9_run 29 = .ok (.invokevirtual 213, 3) := by decide +kernel
theorem dX9_run_32 : decode cX9_run 32 = .ok (.aload_n 0, 1) := by decide +kernel
theorem dX9_run_33 : decode cX9_run 33 = .ok (.getfield 24, 3) := by decide +kernel
theorem dX9_run_36 : decode cX9_run 36 = .ok (.iload_n 2, 1) := by decide +kernel
theorem dX9_run_37 : decode cX9_run 37 = .ok (.invokevirtual 216, 3) := by decide +kernel
theorem dX9_run_40 : decode cX9_run 40 = .ok (.ireturn, 1) := by decide +kernel
def fX9_run_B17 (M : Mm) : Option (Int32 × Mm) :=
  bd (fX9_refuse (-1000000001 : Int32) M) fun r5 M6 =>
  some (r5, M6)
theorem tX9_run_B17 (l : Launch) (G : Gx) (M : Mm) : Sim cQi l layC G 6 cX9_run RX9 3 (some .int) 17 [(0, rf G 173)] [] M (fX9_run_B17 M) := by
  unfold fX9_run_B17
  refine s_aload_n 0 dX9_run_17 rfl rfl ?_
  refine s_ldc (v := -1000000001) dX9_run_18 q_425 ?_
  refine s_call_i (s_runV (ci := 9) (rest := []) rfl rfl (mX9_refuse l G (-1000000001 : Int32) M) ok_X9_refuse k_X9_72 rfl rfl rfl rfl dX9_run_20) fun r5 M6 => ?_
  exact s_iret rfl dX9_run_23
def fX9_run (a1 : Int32) (a2 : Int32) (M : Mm) : Option (Int32 × Mm) :=
  bd (fX9_isPage a1 M) fun r1 M2 =>
  if r1 = true then (bd (fX9_isWithin a2 (0 : Int32) (99 : Int32) M2) fun r3 M4 =>
  if r3 = true then (bd (fX0_startPage a1 M4) fun r7 M8 =>
  bd (fX0_clearInARun a2 M8) fun r9 M10 =>
  some (r9, M10))
  else fX9_run_B17 M4)
  else fX9_run_B17 M2
theorem mX9_run (l : Launch) (G : Gx) (a1 : Int32) (a2 : Int32) (M : Mm) : Mt cQi l layC G 6 yX9_run cX9_run 3 (some .int) [rf G 173, .int a1, .int a2] M (fX9_run a1 a2 M) := by
  refine Mt.of2 (own := RX9) (lv := [(0, rf G 173), (1, .int a1), (2, .int a2)]) rfl (by decide +kernel) rfl rfl ?_
  unfold fX9_run
  refine s_iload_n 1 dX9_run_0 rfl rfl ?_
  refine s_call_z (s_runS (rest := []) (mX9_isPage l G a1 M) ok_X9_isPage k_X9_192 rfl rfl rfl rfl dX9_run_1) fun r1 M2 => ?_
  refine s_ifeqB (tgt := 17) dX9_run_4 (by decide) ?_ ?_
  · exact s_sub [0] rfl (tX9_run_B17 l G M2)
  · refine s_iload_n 2 dX9_run_7 rfl rfl ?_
    refine s_iconst (v := 0) dX9_run_8 ci_0 ?_
    refine s_bipush (v := 99) dX9_run_9 cb_99 ?_
    refine s_call_z (s_runS (rest := []) (mX9_isWithin l G a2 (0 : Int32) (99 : Int32) M2) ok_X9_isWithin k_X9_83 rfl rfl rfl rfl dX9_run_11) fun r3 M4 => ?_
    refine s_ifneB (tgt := 24) dX9_run_14 (by decide) ?_ ?_
    · refine s_aload_n 0 dX9_run_24 rfl rfl ?_
      refine g_X9_24 (q := 136) rfl rfl dX9_run_25 ?_
      refine s_iload_n 1 dX9_run_28 rfl rfl ?_
      refine s_call_v (s_runV (ci := 0) (rest := []) rfl rfl (mX0_startPage l G a1 M4) ok_X0_startPage k_X9_213 rfl rfl rfl rfl dX9_run_29) fun r7 M8 => ?_
      refine s_aload_n 0 dX9_run_32 rfl rfl ?_
      refine g_X9_24 (q := 136) rfl rfl dX9_run_33 ?_
      refine s_iload_n 2 dX9_run_36 rfl rfl ?_
      refine s_call_i (s_runV (ci := 0) (rest := []) rfl rfl (mX0_clearInARun l G a2 M8) ok_X0_clearInARun k_X9_216 rfl rfl rfl rfl dX9_run_37) fun r9 M10 => ?_
      exact s_iret rfl dX9_run_40
    · exact s_sub [0] rfl (tX9_run_B17 l G M4)
theorem dX9_lost_0 : decode cX9_lost 0 = .ok (.aload_n 0, 1) := by decide +kernel
theorem dX9_lost_1 : decode cX9_lost 1 = .ok (.getfield 12, 3) := by decide +kernel
theorem dX9_lost_4 : decode cX9_lost 4 = .ok (.iload_n 1, 1) := by decide +kernel
theorem dX9_lost_5 : decode cX9_lost 5 = .ok (.invokevirtual 79, 3) := by decide +kernel
theorem dX9_lost_8 : decode cX9_lost 8 = .ok (.ifCond .ne 10, 3) := by decide +kernel
theorem dX9_lost_11 : decode cX9_lost 11 = .ok (.aload_n 0, 1) := by decide +kernel
theorem dX9_lost_12 : decode cX9_lost 12 = .ok (.ldc 87, 2) := by decide +kernel
theorem dX9_lost_14 : decode cX9_lost 14 = .ok (.invokevirtual 72, 3) := by decide +kernel
theorem dX9_lost_17 : decode cX9_lost 17 = .ok (.ireturn, 1) := by decide +kernel
theorem dX9_lost_18 : decode cX9_lost 18 = .ok (.aload_n 0, 1) := by decide +kernel
theorem dX9_lost_19 : decode cX9_lost 19 = .ok (.getfield 12, 3) := by decide +kernel
theorem dX9_lost_22 : decode cX9_lost 22 = .ok (.getfield 88, 3) := by decide +kernel
theorem dX9_lost_25 : decode cX9_lost 25 = .ok (.iload_n 1, 1) := by decide +kernel
theorem dX9_lost_26 : decode cX9_lost 26 = .ok (.aaload, 1) := by decide +kernel
theorem dX9_lost_27 : decode cX9_lost 27 = .ok (.astore_n 2, 1) := by decide +kernel
theorem dX9_lost_28 : decode cX9_lost 28 = .ok (.aload_n 2, 1) := by decide +kernel
theorem dX9_lost_29 : decode cX9_lost 29 = .ok (.getfield 117, 3) := by decide +kernel
theorem dX9_lost_32 : decode cX9_lost 32 = .ok (.ifCond .ge 10, 3) := by decide +kernel
theorem dX9_lost_35 : decode cX9_lost 35 = .ok (.aload_n 0, 1) := by decide +kernel
theorem dX9_lost_36 : decode cX9_lost 36 = .ok (.ldc 120, 2) := by decide +kernel
theorem dX9_lost_38 : decode cX9_lost 38 = .ok (.invokevirtual 72, 3) := by decide +kernel
theorem dX9_lost_41 : decode cX9_lost 41 = .ok (.ireturn, 1) := by decide +kernel
theorem dX9_lost_42 : decode cX9_lost 42 = .ok (.aload_n 0, 1) := by decide +kernel
theorem dX9_lost_43 : decode cX9_lost 43 = .ok (.getfield 24, 3) := by decide +kernel
theorem dX9_lost_46 : decode cX9_lost 46 = .ok (.aload_n 2, 1) := by decide +kernel
theorem dX9_lost_47 : decode cX9_lost 47 = .ok (.invokevirtual 219, 3) := by decide +kernel
theorem dX9_lost_50 : decode cX9_lost 50 = .ok (.aload_n 0, 1) := by decide +kernel
theorem dX9_lost_51 : decode cX9_lost 51 = .ok (.getfield 24, 3) := by decide +kernel
theorem dX9_lost_54 : decode cX9_lost 54 = .ok (.bipush 100, 2) := by decide +kernel
theorem dX9_lost_56 : decode cX9_lost 56 = .ok (.invokevirtual 216, 3) := by decide +kernel
theorem dX9_lost_59 : decode cX9_lost 59 = .ok (.istore_n 3, 1) := by decide +kernel
theorem dX9_lost_60 : decode cX9_lost 60 = .ok (.iload_n 3, 1) := by decide +kernel
theorem dX9_lost_61 : decode cX9_lost 61 = .ok (.bipush 99, 2) := by decide +kernel
theorem dX9_lost_63 : decode cX9_lost 63 = .ok (.if_icmp .gt 7, 3) := by decide +kernel
theorem dX9_lost_66 : decode cX9_lost 66 = .ok (.iload_n 3, 1) := by decide +kernel
theorem dX9_lost_67 : decode cX9_lost 67 = .ok (.goto 9, 3) := by decide +kernel
theorem dX9_lost_70 : decode cX9_lost 70 = .ok (.aload_n 0, 1) := by decide +kernel
theorem dX9_lost_71 : decode cX9_lost 71 = .ok (.ldc 223, 2) := by decide +kernel
theorem dX9_lost_73 : decode cX9_lost 73 = .ok (.invokevirtual 72, 3) := by decide +kernel
theorem dX9_lost_76 : decode cX9_lost 76 = .ok (.ireturn, 1) := by decide +kernel
def fX9_lost_B76 (w0 : Int32) (M : Mm) : Option (Int32 × Mm) :=
  some (w0, M)
theorem tX9_lost_B76 (l : Launch) (G : Gx) (w0 : Int32) (M : Mm) : Sim cQi l layC G 6 cX9_lost RX9 4 (some .int) 76 [] [.int w0] M (fX9_lost_B76 w0 M) := by
  unfold fX9_lost_B76
  exact s_iret rfl dX9_lost_76
def fX9_lost (a1 : Int32) (M : Mm) : Option (Int32 × Mm) :=
  bd (fX7_hasLetter a1 M) fun r1 M2 =>
  if r1 = true then (gd (inb a1 24) <|
  gd (isC layC (4 + 1 * ix a1) 3) <|
  if 0 ≤ (M2 (4 + 1 * ix a1) 5) then (bd (fX0_startLetter (4 + 1 * ix a1) M2) fun r7 M8 =>
  bd (fX0_clearInARun (100 : Int32) M8) fun r9 M10 =>
  if (99 : Int32) < r9 then (bd (fX9_refuse (-1000000002 : Int32) M10) fun r11 M12 =>
  fX9_lost_B76 r11 M12)
  else fX9_lost_B76 r9 M10)
  else bd (fX9_refuse (-1000000003 : Int32) M2) fun r13 M14 =>
  some (r13, M14))
  else bd (fX9_refuse (-1000000001 : Int32) M2) fun r3 M4 =>
  some (r3, M4)
theorem mX9_lost (l : Launch) (G : Gx) (a1 : Int32) (M : Mm) : Mt cQi l layC G 6 yX9_lost cX9_lost 4 (some .int) [rf G 173, .int a1] M (fX9_lost a1 M) := by
  refine Mt.of2 (own := RX9) (lv := [(0, rf G 173), (1, .int a1)]) rfl (by decide +kernel) rfl rfl ?_
  unfold fX9_lost
  refine s_aload_n 0 dX9_lost_0 rfl rfl ?_
  refine g_X9_12 (q := 0) rfl rfl dX9_lost_1 ?_
  refine s_iload_n 1 dX9_lost_4 rfl rfl ?_
  refine s_call_z (s_runV (ci := 7) (rest := []) rfl rfl (mX7_hasLetter l G a1 M) ok_X7_hasLetter k_X9_79 rfl rfl rfl rfl dX9_lost_5) fun r1 M2 => ?_
  refine s_ifneB (tgt := 18) dX9_lost_8 (by decide) ?_ ?_
  · refine s_aload_n 0 dX9_lost_18 rfl rfl ?_
    refine g_X9_12 (q := 0) rfl rfl dX9_lost_19 ?_
    refine g_X9_88 (q := 3) rfl rfl dX9_lost_22 ?_
    refine s_iload_n 1 dX9_lost_25 rfl rfl ?_
    refine s_gd fun h5 => ?_
    refine s_aald (t := 1) (bs := 4) (sd := 1) (n := 24) rfl rfl h5 dX9_lost_26 ?_
    refine s_astore_n (lv' := [(2, rf G (4 + 1 * ix a1)), (0, rf G 173), (1, .int a1)]) dX9_lost_27 rfl rfl rfl ?_
    refine s_aload_n 0 dX9_lost_28 rfl rfl ?_
    refine s_gd fun h6 => ?_
    refine g_X9_117 h6 dX9_lost_29 ?_
    refine s_ifge (tgt := 42) dX9_lost_32 (by decide) ?_ ?_
    · refine s_aload_n 1 dX9_lost_42 rfl rfl ?_
      refine g_X9_24 (q := 136) rfl rfl dX9_lost_43 ?_
      refine s_aload_n 0 dX9_lost_46 rfl rfl ?_
      refine s_call_v (s_runV (ci := 0) (rest := []) rfl rfl (mX0_startLetter l G (4 + 1 * ix a1) M2) ok_X0_startLetter k_X9_219 rfl rfl rfl rfl dX9_lost_47) fun r7 M8 => ?_
      refine s_aload_n 1 dX9_lost_50 rfl rfl ?_
      refine g_X9_24 (q := 136) rfl rfl dX9_lost_51 ?_
      refine s_bipush (v := 100) dX9_lost_54 cb_100 ?_
      refine s_call_i (s_runV (ci := 0) (rest := []) rfl rfl (mX0_clearInARun l G (100 : Int32) M8) ok_X0_clearInARun k_X9_216 rfl rfl rfl rfl dX9_lost_56) fun r9 M10 => ?_
      refine s_istore_n (lv' := [(3, .int r9), (2, rf G (4 + 1 * ix a1)), (0, rf G 173), (1, .int a1)]) dX9_lost_59 rfl rfl rfl ?_
      refine s_iload_n 0 dX9_lost_60 rfl rfl ?_
      refine s_bipush (v := 99) dX9_lost_61 cb_99 ?_
      refine s_icmpgt (tgt := 70) dX9_lost_63 (by decide) ?_ ?_
      · refine s_aload_n 2 dX9_lost_70 rfl rfl ?_
        refine s_ldc (v := -1000000002) dX9_lost_71 q_779 ?_
        refine s_call_i (s_runV (ci := 9) (rest := []) rfl rfl (mX9_refuse l G (-1000000002 : Int32) M10) ok_X9_refuse k_X9_72 rfl rfl rfl rfl dX9_lost_73) fun r11 M12 => ?_
        exact s_sub [] rfl (tX9_lost_B76 l G r11 M12)
      · refine s_iload_n 0 dX9_lost_66 rfl rfl ?_
        refine s_goto (tgt := 76) dX9_lost_67 (by decide) ?_
        exact s_sub [] rfl (tX9_lost_B76 l G r9 M10)
    · refine s_aload_n 1 dX9_lost_35 rfl rfl ?_
      refine s_ldc (v := -1000000003) dX9_lost_36 q_493 ?_
      refine s_call_i (s_runV (ci := 9) (rest := []) rfl rfl (mX9_refuse l G (-1000000003 : Int32) M2) ok_X9_refuse k_X9_72 rfl rfl rfl rfl dX9_lost_38) fun r13 M14 => ?_
      exact s_iret rfl dX9_lost_41
  · refine s_aload_n 0 dX9_lost_11 rfl rfl ?_
    refine s_ldc (v := -1000000001) dX9_lost_12 q_425 ?_
    refine s_call_i (s_runV (ci := 9) (rest := []) rfl rfl (mX9_refuse l G (-1000000001 : Int32) M2) ok_X9_refuse k_X9_72 rfl rfl rfl rfl dX9_lost_14) fun r3 M4 => ?_
    exact s_iret rfl dX9_lost_17
theorem dX9_then_0 : decode cX9_then 0 = .ok (.aload_n 0, 1) := by decide +kernel
theorem dX9_then_1 : decode cX9_then 1 = .ok (.getfield 12, 3) := by decide +kernel
theorem dX9_then_4 : decode cX9_then 4 = .ok (.iload_n 1, 1) := by decide +kernel
theorem dX9_then_5 : decode cX9_then 5 = .ok (.invokevirtual 79, 3) := by decide +kernel
theorem dX9_then_8 : decode cX9_then 8 = .ok (.ifCond .eq 23, 3) := by decide +kernel
theorem dX9_then_11 : decode cX9_then 11 = .ok (.iload_n 2, 1) := by decide +kernel
theorem dX9_then_12 : decode cX9_then 12 = .ok (.iconst 0, 1) := by decide +kernel
theorem dX9_then_13 : decode cX9_then 13 = .ok (.bipush 99, 2) := by decide +kernel
theorem dX9_then_15 : decode cX9_then 15 = .ok (.invokestatic 83, 3) := by decide +kernel
theorem dX9_then_18 : decode cX9_then 18 = .ok (.ifCond .eq 13, 3) := by decide +kernel
theorem dX9_then_21 : decode cX9_then 21 = .ok (.iload_n 3, 1) := by decide +kernel
theorem dX9_then_22 : decode cX9_then 22 = .ok (.iconst 0, 1) := by decide +kernel
theorem dX9_then_23 : decode cX9_then 23 = .ok (.bipush 9, 2) := by decide +kernel
theorem dX9_then_25 : decode cX9_then 25 = .ok (.invokestatic 83, 3) := by decide +kernel
theorem dX9_then_28 : decode cX9_then 28 = .ok (.ifCond .ne 10, 3) := by decide +kernel
theorem dX9_then_31 : decode cX9_then 31 = .ok (.aload_n 0, 1) := by decide +kernel
theorem dX9_then_32 : decode cX9_then 32 = .ok (.ldc 87, 2) := by decide +kernel
theorem dX9_then_34 : decode cX9_then 34 = .ok (.invokevirtual 72, 3) := by decide +kernel
theorem dX9_then_37 : decode cX9_then 37 = .ok (.ireturn, 1) := by decide +kernel
theorem dX9_then_38 : decode cX9_then 38 = .ok (.aload_n 0, 1) := by decide +kernel
theorem dX9_then_39 : decode cX9_then 39 = .ok (.getfield 12, 3) := by decide +kernel
theorem dX9_then_42 : decode cX9_then 42 = .ok (.getfield 88, 3) := by decide +kernel
theorem dX9_then_45 : decode cX9_then 45 = .ok (.iload_n 1, 1) := by decide +kernel
theorem dX9_then_46 : decode cX9_then 46 = .ok (.aaload, 1) := by decide +kernel
theorem dX9_then_47 : decode cX9_then 47 = .ok (.astore 4, 2) := by decide +kernel
theorem dX9_then_49 : decode cX9_then 49 = .ok (.aload 4, 2) := by decide +kernel
theorem dX9_then_51 : decode cX9_then 51 = .ok (.getfield 117, 3) := by decide +kernel
theorem dX9_then_54 : decode cX9_then 54 = .ok (.ifCond .ge 10, 3) := by decide +kernel
theorem dX9_then_57 : decode cX9_then 57 = .ok (.aload_n 0, 1) := by decide +kernel
theorem dX9_then_58 : decode cX9_then 58 = .ok (.ldc 120, 2) := by decide +kernel
theorem dX9_then_60 : decode cX9_then 60 = .ok (.invokevirtual 72, 3) := by decide +kernel
theorem dX9_then_63 : decode cX9_then 63 = .ok (.ireturn, 1) := by decide +kernel
theorem dX9_then_64 : decode cX9_then 64 = .ok (.aload_n 0, 1) := by decide +kernel
theorem dX9_then_65 : decode cX9_then 65 = .ok (.getfield 24, 3) := by decide +kernel
theorem dX9_then_68 : decode cX9_then 68 = .ok (.aload 4, 2) := by decide +kernel
theorem dX9_then_70 : decode cX9_then 70 = .ok (.invokevirtual 219, 3) := by decide +kernel
theorem dX9_then_73 : decode cX9_then 73 = .ok (.iconst 0, 1) := by decide +kernel
theorem dX9_then_74 : decode cX9_then 74 = .ok (.istore 5, 2) := by decide +kernel
theorem dX9_then_76 : decode cX9_then 76 = .ok (.iload 5, 2) := by decide +kernel
theorem dX9_then_78 : decode cX9_then 78 = .ok (.iload_n 2, 1) := by decide +kernel
theorem dX9_then_79 : decode cX9_then 79 = .ok (.if_icmp .ge 16, 3) := by decide +kernel
theorem dX9_then_82 : decode cX9_then 82 = .ok (.aload_n 0, 1) := by decide +kernel
theorem dX9_then_83 : decode cX9_then 83 = .ok (.getfield 24, 3) := by decide +kernel
theorem dX9_then_86 : decode cX9_then 86 = .ok (.invokevirtual 224, 3) := by decide +kernel
theorem dX9_then_89 : decode cX9_then 89 = .ok (.iinc 5 1, 3) := by decide +kernel
theorem dX9_then_92 : decode cX9_then 92 = .ok (.goto (-16), 3) := by decide +kernel
theorem dX9_then_95 : decode cX9_then 95 = .ok (.aload_n 0, 1) := by decide +kernel
theorem dX9_then_96 : decode cX9_then 96 = .ok (.getfield 12, 3) := by decide +kernel
theorem dX9_then_99 : decode cX9_then 99 = .ok (.aload_n 0, 1) := by decide +kernel
theorem dX9_then_100 : decode cX9_then 100 = .ok (.getfield 24, 3) := by decide +kernel
theorem dX9_then_103 : decode cX9_then 103 = .ok (.getfield 227, 3) := by decide +kernel
theorem dX9_then_106 : decode cX9_then 106 = .ok (.iconst 0, 1) := by decide +kernel
theorem dX9_then_107 : decode cX9_then 107 = .ok (.aaload, 1) := by decide +kernel
theorem dX9_then_108 : decode cX9_then 108 = .ok (.aload_n 0, 1) := by decide +kernel
theorem dX9_then_109 : decode cX9_then 109 = .ok (.getfield 24, 3) := by decide +kernel
theorem dX9_then_112 : decode cX9_then 112 = .ok (.getfield 228, 3) := by decide +kernel
theorem dX9_then_115 : decode cX9_then 115 = .ok (.iload_n 3, 1) := by decide +kernel
theorem dX9_then_116 : decode cX9_then 116 = .ok (.invokevirtual 96, 3) := by decide +kernel
theorem dX9_then_119 : decode cX9_then 119 = .ok (.ireturn, 1) := by decide +kernel
def fX9_then_B31 (M : Mm) : Option (Int32 × Mm) :=
  bd (fX9_refuse (-1000000001 : Int32) M) fun r7 M8 =>
  some (r7, M8)
theorem tX9_then_B31 (l : Launch) (G : Gx) (M : Mm) : Sim cQi l layC G 5 cX9_then RX9 6 (some .int) 31 [(0, rf G 173)] [] M (fX9_then_B31 M) := by
  unfold fX9_then_B31
  refine s_aload_n 0 dX9_then_31 rfl rfl ?_
  refine s_ldc (v := -1000000001) dX9_then_32 q_425 ?_
  refine s_call_i (s_runV (ci := 9) (rest := []) rfl rfl (mX9_refuse l G (-1000000001 : Int32) M) ok_X9_refuse k_X9_72 rfl rfl rfl rfl dX9_then_34) fun r7 M8 => ?_
  exact s_iret rfl dX9_then_37
def fX9_then_B95 (v3 : Int32) (M : Mm) : Option (Int32 × Mm) :=
  gd (inb (0 : Int32) 8) <|
  bd (fX7_factOf (138 + 1 * ix (0 : Int32)) (M 136 3) v3 M) fun r14 M15 =>
  some (r14, M15)
theorem tX9_then_B95 (l : Launch) (G : Gx) (v3 : Int32) (M : Mm) : Sim cQi l layC G 5 cX9_then RX9 6 (some .int) 95 [(0, rf G 173), (3, .int v3)] [] M (fX9_then_B95 v3 M) := by
  unfold fX9_then_B95
  refine s_aload_n 0 dX9_then_95 rfl rfl ?_
  refine g_X9_12 (q := 0) rfl rfl dX9_then_96 ?_
  refine s_aload_n 0 dX9_then_99 rfl rfl ?_
  refine g_X9_24 (q := 136) rfl rfl dX9_then_100 ?_
  refine g_X9_227 (q := 137) rfl rfl dX9_then_103 ?_
  refine s_iconst (v := 0) dX9_then_106 ci_0 ?_
  refine s_gd fun h13 => ?_
  refine s_aald (t := 1) (bs := 138) (sd := 1) (n := 8) rfl rfl h13 dX9_then_107 ?_
  refine s_aload_n 0 dX9_then_108 rfl rfl ?_
  refine g_X9_24 (q := 136) rfl rfl dX9_then_109 ?_
  refine g_X9_228 rfl dX9_then_112 ?_
  refine s_iload_n 1 dX9_then_115 rfl rfl ?_
  refine s_call_i (s_runV (ci := 7) (rest := []) rfl rfl (mX7_factOf l G (138 + 1 * ix (0 : Int32)) (M 136 3) v3 M) ok_X7_factOf k_X9_96 rfl rfl rfl rfl dX9_then_116) fun r14 M15 => ?_
  exact s_iret rfl dX9_then_119
def fX9_then_L76b (v2 : Int32) (v3 : Int32) (q76 : Int32 → Mm → Option (Int32 × Mm)) (v5 : Int32) (M : Mm) : Option (Int32 × Mm) :=
  if v2 ≤ v5 then (fX9_then_B95 v3 M)
  else bd (fX0_passSheet M) fun r16 M17 =>
  q76 (v5 + 1) M17
def fX9_then_L76 (v2 : Int32) (v3 : Int32) : Nat → Int32 → Mm → Option (Int32 × Mm)
  | 0 => fun _ _ => none
  | n + 1 => fX9_then_L76b v2 v3 (fX9_then_L76 v2 v3 n)
theorem tX9_then_L76b (l : Launch) (G : Gx) (v2 : Int32) (v3 : Int32) (q76 : Int32 → Mm → Option (Int32 × Mm)) (hq76 : ∀ (v5 : Int32) (M : Mm), Sim cQi l layC G 5 cX9_then RX9 6 (some .int) 76 [(5, .int v5), (0, rf G 173), (2, .int v2), (3, .int v3)] [] M (q76 v5 M)) (v5 : Int32) (M : Mm) : Sim cQi l layC G 5 cX9_then RX9 6 (some .int) 76 [(5, .int v5), (0, rf G 173), (2, .int v2), (3, .int v3)] [] M (fX9_then_L76b v2 v3 q76 v5 M) := by
  unfold fX9_then_L76b
  refine s_iload 0 dX9_then_76 rfl ?_
  refine s_iload_n 2 dX9_then_78 rfl rfl ?_
  refine s_icmpge (tgt := 95) dX9_then_79 (by decide) ?_ ?_
  · exact s_sub [1, 3] rfl (tX9_then_B95 l G v3 M)
  · refine s_aload_n 1 dX9_then_82 rfl rfl ?_
    refine g_X9_24 (q := 136) rfl rfl dX9_then_83 ?_
    refine s_call_v (s_runV (ci := 0) (rest := []) rfl rfl (mX0_passSheet l G M) ok_X0_passSheet k_X9_224 rfl rfl rfl rfl dX9_then_86) fun r16 M17 => ?_
    refine s_iinc (k := 0) (lv' := [(5, .int (v5 + 1)), (0, rf G 173), (2, .int v2), (3, .int v3)]) dX9_then_89 rfl ci_1 rfl rfl ?_
    refine s_goto (tgt := 76) dX9_then_92 (by decide) ?_
    exact s_sub [0, 1, 2, 3] rfl (hq76 (v5 + 1) M17)
theorem tX9_then_L76 (l : Launch) (G : Gx) (v2 : Int32) (v3 : Int32) : ∀ (n : Nat) (v5 : Int32) (M : Mm), Sim cQi l layC G 5 cX9_then RX9 6 (some .int) 76 [(5, .int v5), (0, rf G 173), (2, .int v2), (3, .int v3)] [] M (fX9_then_L76 v2 v3 n v5 M)
  | 0, _, _ => s_none
  | n + 1, v5, M => tX9_then_L76b l G v2 v3 _ (tX9_then_L76 l G v2 v3 n) v5 M
def fX9_then (a1 : Int32) (a2 : Int32) (a3 : Int32) (M : Mm) : Option (Int32 × Mm) :=
  bd (fX7_hasLetter a1 M) fun r1 M2 =>
  if r1 = true then (bd (fX9_isWithin a2 (0 : Int32) (99 : Int32) M2) fun r3 M4 =>
  if r3 = true then (bd (fX9_isWithin a3 (0 : Int32) (9 : Int32) M4) fun r5 M6 =>
  if r5 = true then (gd (inb a1 24) <|
  gd (isC layC (4 + 1 * ix a1) 3) <|
  if 0 ≤ (M6 (4 + 1 * ix a1) 5) then (bd (fX0_startLetter (4 + 1 * ix a1) M6) fun r11 M12 =>
  fX9_then_L76 a2 a3 FU (0 : Int32) M12)
  else bd (fX9_refuse (-1000000003 : Int32) M6) fun r18 M19 =>
  some (r18, M19))
  else fX9_then_B31 M6)
  else fX9_then_B31 M4)
  else fX9_then_B31 M2
theorem mX9_then (l : Launch) (G : Gx) (a1 : Int32) (a2 : Int32) (a3 : Int32) (M : Mm) : Mt cQi l layC G 5 yX9_then cX9_then 6 (some .int) [rf G 173, .int a1, .int a2, .int a3] M (fX9_then a1 a2 a3 M) := by
  refine Mt.of2 (own := RX9) (lv := [(0, rf G 173), (1, .int a1), (2, .int a2), (3, .int a3)]) rfl (by decide +kernel) rfl rfl ?_
  unfold fX9_then
  refine s_aload_n 0 dX9_then_0 rfl rfl ?_
  refine g_X9_12 (q := 0) rfl rfl dX9_then_1 ?_
  refine s_iload_n 1 dX9_then_4 rfl rfl ?_
  refine s_call_z (s_runV (ci := 7) (rest := []) rfl rfl (mX7_hasLetter l G a1 M) ok_X7_hasLetter k_X9_79 rfl rfl rfl rfl dX9_then_5) fun r1 M2 => ?_
  refine s_ifeqB (tgt := 31) dX9_then_8 (by decide) ?_ ?_
  · exact s_sub [0] rfl (tX9_then_B31 l G M2)
  · refine s_iload_n 2 dX9_then_11 rfl rfl ?_
    refine s_iconst (v := 0) dX9_then_12 ci_0 ?_
    refine s_bipush (v := 99) dX9_then_13 cb_99 ?_
    refine s_call_z (s_runS (rest := []) (mX9_isWithin l G a2 (0 : Int32) (99 : Int32) M2) ok_X9_isWithin k_X9_83 rfl rfl rfl rfl dX9_then_15) fun r3 M4 => ?_
    refine s_ifeqB (tgt := 31) dX9_then_18 (by decide) ?_ ?_
    · exact s_sub [0] rfl (tX9_then_B31 l G M4)
    · refine s_iload_n 3 dX9_then_21 rfl rfl ?_
      refine s_iconst (v := 0) dX9_then_22 ci_0 ?_
      refine s_bipush (v := 9) dX9_then_23 cb_9 ?_
      refine s_call_z (s_runS (rest := []) (mX9_isWithin l G a3 (0 : Int32) (9 : Int32) M4) ok_X9_isWithin k_X9_83 rfl rfl rfl rfl dX9_then_25) fun r5 M6 => ?_
      refine s_ifneB (tgt := 38) dX9_then_28 (by decide) ?_ ?_
      · refine s_aload_n 0 dX9_then_38 rfl rfl ?_
        refine g_X9_12 (q := 0) rfl rfl dX9_then_39 ?_
        refine g_X9_88 (q := 3) rfl rfl dX9_then_42 ?_
        refine s_iload_n 1 dX9_then_45 rfl rfl ?_
        refine s_gd fun h9 => ?_
        refine s_aald (t := 1) (bs := 4) (sd := 1) (n := 24) rfl rfl h9 dX9_then_46 ?_
        refine s_astore (lv' := [(4, rf G (4 + 1 * ix a1)), (0, rf G 173), (1, .int a1), (2, .int a2), (3, .int a3)]) dX9_then_47 rfl rfl ?_
        refine s_aload 0 dX9_then_49 rfl ?_
        refine s_gd fun h10 => ?_
        refine g_X9_117 h10 dX9_then_51 ?_
        refine s_ifge (tgt := 64) dX9_then_54 (by decide) ?_ ?_
        · refine s_aload_n 1 dX9_then_64 rfl rfl ?_
          refine g_X9_24 (q := 136) rfl rfl dX9_then_65 ?_
          refine s_aload 0 dX9_then_68 rfl ?_
          refine s_call_v (s_runV (ci := 0) (rest := []) rfl rfl (mX0_startLetter l G (4 + 1 * ix a1) M6) ok_X0_startLetter k_X9_219 rfl rfl rfl rfl dX9_then_70) fun r11 M12 => ?_
          refine s_iconst (v := 0) dX9_then_73 ci_0 ?_
          refine s_istore (lv' := [(5, .int (0 : Int32)), (4, rf G (4 + 1 * ix a1)), (0, rf G 173), (1, .int a1), (2, .int a2), (3, .int a3)]) dX9_then_74 rfl rfl ?_
          exact s_sub [0, 2, 4, 5] rfl (tX9_then_L76 l G a2 a3 FU (0 : Int32) M12)
        · refine s_aload_n 1 dX9_then_57 rfl rfl ?_
          refine s_ldc (v := -1000000003) dX9_then_58 q_493 ?_
          refine s_call_i (s_runV (ci := 9) (rest := []) rfl rfl (mX9_refuse l G (-1000000003 : Int32) M6) ok_X9_refuse k_X9_72 rfl rfl rfl rfl dX9_then_60) fun r18 M19 => ?_
          exact s_iret rfl dX9_then_63
      · exact s_sub [0] rfl (tX9_then_B31 l G M6)
theorem dX9_order_0 : decode cX9_order 0 = .ok (.iload_n 1, 1) := by decide +kernel
theorem dX9_order_1 : decode cX9_order 1 = .ok (.iconst 1, 1) := by decide +kernel
theorem dX9_order_2 : decode cX9_order 2 = .ok (.bipush 20, 2) := by decide +kernel
theorem dX9_order_4 : decode cX9_order 4 = .ok (.invokestatic 83, 3) := by decide +kernel
theorem dX9_order_7 : decode cX9_order 7 = .ok (.ifCond .eq 8, 3) := by decide +kernel
theorem dX9_order_10 : decode cX9_order 10 = .ok (.iload_n 2, 1) := by decide +kernel
theorem dX9_order_11 : decode cX9_order 11 = .ok (.iconst (-1), 1) := by decide +kernel
theorem dX9_order_12 : decode cX9_order 12 = .ok (.if_icmp .ge 10, 3) := by decide +kernel
theorem dX9_order_15 : decode cX9_order 15 = .ok (.aload_n 0, 1) := by decide +kernel
theorem dX9_order_16 : decode cX9_order 16 = .ok (.ldc 87, 2) := by decide +kernel
theorem dX9_order_18 : decode cX9_order 18 = .ok (.invokevirtual 72, 3) := by decide +kernel
theorem dX9_order_21 : decode cX9_order 21 = .ok (.ireturn, 1) := by decide +kernel
theorem dX9_order_22 : decode cX9_order 22 = .ok (.aload_n 0, 1) := by decide +kernel
theorem dX9_order_23 : decode cX9_order 23 = .ok (.getfield 33, 3) := by decide +kernel
theorem dX9_order_26 : decode cX9_order 26 = .ok (.iload_n 1, 1) := by decide +kernel
theorem dX9_order_27 : decode cX9_order 27 = .ok (.invokevirtual 230, 3) := by decide +kernel
theorem dX9_order_30 : decode cX9_order 30 = .ok (.aload_n 0, 1) := by decide +kernel
theorem dX9_order_31 : decode cX9_order 31 = .ok (.getfield 33, 3) := by decide +kernel
theorem dX9_order_34 : decode cX9_order 34 = .ok (.invokevirtual 233, 3) := by decide +kernel
theorem dX9_order_37 : decode cX9_order 37 = .ok (.iload_n 2, 1) := by decide +kernel
theorem dX9_order_38 : decode cX9_order 38 = .ok (.iconst (-1), 1) := by decide +kernel
theorem dX9_order_39 : decode cX9_order 39 = .ok (.if_icmp .ne 11, 3) := by decide +kernel
theorem dX9_order_42 : decode cX9_order 42 = .ok (.aload_n 0, 1) := by decide +kernel
theorem dX9_order_43 : decode cX9_order 43 = .ok (.getfield 33, 3) := by decide +kernel
theorem dX9_order_46 : decode cX9_order 46 = .ok (.getfield 236, 3) := by decide +kernel
theorem dX9_order_49 : decode cX9_order 49 = .ok (.ireturn, 1) := by decide +kernel
theorem dX9_order_50 : decode cX9_order 50 = .ok (.iload_n 2, 1) := by decide +kernel
theorem dX9_order_51 : decode cX9_order 51 = .ok (.aload_n 0, 1) := by decide +kernel
theorem dX9_order_52 : decode cX9_order 52 = .ok (.getfield 33, 3) := by decide +kernel
theorem dX9_order_55 : decode cX9_order 55 = .ok (.getfield 239, 3) := by decide +kernel
theorem dX9_order_58 : decode cX9_order 58 = .ok (.getfield 141, 3) := by decide +kernel
theorem dX9_order_61 : decode cX9_order 61 = .ok (.if_icmp .ge 17, 3) := by decide +kernel
theorem dX9_order_64 : decode cX9_order 64 = .ok (.aload_n 0, 1) := by decide +kernel
theorem dX9_order_65 : decode cX9_order 65 = .ok (.getfield 33, 3) := by decide +kernel
theorem dX9_order_68 : decode cX9_order 68 = .ok (.getfield 239, 3) := by decide +kernel
theorem dX9_order_71 : decode cX9_order 71 = .ok (.iload_n 2, 1) := by decide +kernel
theorem dX9_order_72 : decode cX9_order 72 = .ok (.invokevirtual 207, 3) := by decide +kernel
theorem dX9_order_75 : decode cX9_order 75 = .ok (.goto 9, 3) := by decide +kernel
theorem dX9_order_78 : decode cX9_order 78 = .ok (.aload_n 0, 1) := by decide +kernel
theorem dX9_order_79 : decode cX9_order 79 = .ok (.ldc 223, 2) := by decide +kernel
theorem dX9_order_81 : decode cX9_order 81 = .ok (.invokevirtual 72, 3) := by decide +kernel
theorem dX9_order_84 : decode cX9_order 84 = .ok (.ireturn, 1) := by decide +kernel
def fX9_order_B84 (w0 : Int32) (M : Mm) : Option (Int32 × Mm) :=
  some (w0, M)
theorem tX9_order_B84 (l : Launch) (G : Gx) (w0 : Int32) (M : Mm) : Sim cQi l layC G 7 cX9_order RX9 3 (some .int) 84 [] [.int w0] M (fX9_order_B84 w0 M) := by
  unfold fX9_order_B84
  exact s_iret rfl dX9_order_84
def fX9_order_B15 (M : Mm) : Option (Int32 × Mm) :=
  bd (fX9_refuse (-1000000001 : Int32) M) fun r11 M12 =>
  some (r11, M12)
theorem tX9_order_B15 (l : Launch) (G : Gx) (M : Mm) : Sim cQi l layC G 7 cX9_order RX9 3 (some .int) 15 [(0, rf G 173)] [] M (fX9_order_B15 M) := by
  unfold fX9_order_B15
  refine s_aload_n 0 dX9_order_15 rfl rfl ?_
  refine s_ldc (v := -1000000001) dX9_order_16 q_425 ?_
  refine s_call_i (s_runV (ci := 9) (rest := []) rfl rfl (mX9_refuse l G (-1000000001 : Int32) M) ok_X9_refuse k_X9_72 rfl rfl rfl rfl dX9_order_18) fun r11 M12 => ?_
  exact s_iret rfl dX9_order_21
def fX9_order (a1 : Int32) (a2 : Int32) (M : Mm) : Option (Int32 × Mm) :=
  bd (fX9_isWithin a1 (1 : Int32) (20 : Int32) M) fun r1 M2 =>
  if r1 = true then (if (-1 : Int32) ≤ a2 then (bd (fX6_tryTurns a1 M2) fun r3 M4 =>
  bd (fX6_findBest M4) fun r5 M6 =>
  if a2 = (-1 : Int32) then (some (M6 146 5, M6))
  else if (M6 151 1) ≤ a2 then (bd (fX9_refuse (-1000000002 : Int32) M6) fun r7 M8 =>
  fX9_order_B84 r7 M8)
  else bd (fX5_at 151 a2 M6) fun r9 M10 =>
  fX9_order_B84 r9 M10)
  else fX9_order_B15 M2)
  else fX9_order_B15 M2
theorem mX9_order (l : Launch) (G : Gx) (a1 : Int32) (a2 : Int32) (M : Mm) : Mt cQi l layC G 7 yX9_order cX9_order 3 (some .int) [rf G 173, .int a1, .int a2] M (fX9_order a1 a2 M) := by
  refine Mt.of2 (own := RX9) (lv := [(0, rf G 173), (1, .int a1), (2, .int a2)]) rfl (by decide +kernel) rfl rfl ?_
  unfold fX9_order
  refine s_iload_n 1 dX9_order_0 rfl rfl ?_
  refine s_iconst (v := 1) dX9_order_1 ci_1 ?_
  refine s_bipush (v := 20) dX9_order_2 cb_20 ?_
  refine s_call_z (s_runS (rest := []) (mX9_isWithin l G a1 (1 : Int32) (20 : Int32) M) ok_X9_isWithin k_X9_83 rfl rfl rfl rfl dX9_order_4) fun r1 M2 => ?_
  refine s_ifeqB (tgt := 15) dX9_order_7 (by decide) ?_ ?_
  · exact s_sub [0] rfl (tX9_order_B15 l G M2)
  · refine s_iload_n 2 dX9_order_10 rfl rfl ?_
    refine s_iconst (v := -1) dX9_order_11 ci_m1 ?_
    refine s_icmpge (tgt := 22) dX9_order_12 (by decide) ?_ ?_
    · refine s_aload_n 0 dX9_order_22 rfl rfl ?_
      refine g_X9_33 (q := 146) rfl rfl dX9_order_23 ?_
      refine s_iload_n 1 dX9_order_26 rfl rfl ?_
      refine s_call_v (s_runV (ci := 6) (rest := []) rfl rfl (mX6_tryTurns l G a1 M2) ok_X6_tryTurns k_X9_230 rfl rfl rfl rfl dX9_order_27) fun r3 M4 => ?_
      refine s_aload_n 0 dX9_order_30 rfl rfl ?_
      refine g_X9_33 (q := 146) rfl rfl dX9_order_31 ?_
      refine s_call_v (s_runV (ci := 6) (rest := []) rfl rfl (mX6_findBest l G M4) ok_X6_findBest k_X9_233 rfl rfl rfl rfl dX9_order_34) fun r5 M6 => ?_
      refine s_iload_n 2 dX9_order_37 rfl rfl ?_
      refine s_iconst (v := -1) dX9_order_38 ci_m1 ?_
      refine s_icmpne (tgt := 50) dX9_order_39 (by decide) ?_ ?_
      · refine s_iload_n 2 dX9_order_50 rfl rfl ?_
        refine s_aload_n 0 dX9_order_51 rfl rfl ?_
        refine g_X9_33 (q := 146) rfl rfl dX9_order_52 ?_
        refine g_X9_239 (q := 151) rfl rfl dX9_order_55 ?_
        refine g_X9_141 rfl dX9_order_58 ?_
        refine s_icmpge (tgt := 78) dX9_order_61 (by decide) ?_ ?_
        · refine s_aload_n 0 dX9_order_78 rfl rfl ?_
          refine s_ldc (v := -1000000002) dX9_order_79 q_779 ?_
          refine s_call_i (s_runV (ci := 9) (rest := []) rfl rfl (mX9_refuse l G (-1000000002 : Int32) M6) ok_X9_refuse k_X9_72 rfl rfl rfl rfl dX9_order_81) fun r7 M8 => ?_
          exact s_sub [] rfl (tX9_order_B84 l G r7 M8)
        · refine s_aload_n 0 dX9_order_64 rfl rfl ?_
          refine g_X9_33 (q := 146) rfl rfl dX9_order_65 ?_
          refine g_X9_239 (q := 151) rfl rfl dX9_order_68 ?_
          refine s_iload_n 2 dX9_order_71 rfl rfl ?_
          refine s_call_i (s_runV (ci := 5) (rest := []) rfl rfl (mX5_at l G 151 a2 M6) ok_X5_at k_X9_207 rfl rfl rfl rfl dX9_order_72) fun r9 M10 => ?_
          refine s_goto (tgt := 84) dX9_order_75 (by decide) ?_
          exact s_sub [] rfl (tX9_order_B84 l G r9 M10)
      · refine s_aload_n 0 dX9_order_42 rfl rfl ?_
        refine g_X9_33 (q := 146) rfl rfl dX9_order_43 ?_
        refine g_X9_236 rfl dX9_order_46 ?_
        exact s_iret rfl dX9_order_49
    · exact s_sub [0] rfl (tX9_order_B15 l G M2)
theorem dX9_room_0 : decode cX9_room 0 = .ok (.iload_n 1, 1) := by decide +kernel
theorem dX9_room_1 : decode cX9_room 1 = .ok (.invokestatic 192, 3) := by decide +kernel
theorem dX9_room_4 : decode cX9_room 4 = .ok (.ifCond .eq 13, 3) := by decide +kernel
theorem dX9_room_7 : decode cX9_room 7 = .ok (.iload_n 2, 1) := by decide +kernel
theorem dX9_room_8 : decode cX9_room 8 = .ok (.iconst 0, 1) := by decide +kernel
theorem dX9_room_9 : decode cX9_room 9 = .ok (.bipush 99, 2) := by decide +kernel
theorem dX9_room_11 : decode cX9_room 11 = .ok (.invokestatic 83, 3) := by decide +kernel
theorem dX9_room_14 : decode cX9_room 14 = .ok (.ifCond .ne 10, 3) := by decide +kernel
theorem dX9_room_17 : decode cX9_room 17 = .ok (.aload_n 0, 1) := by decide +kernel
theorem dX9_room_18 : decode cX9_room 18 = .ok (.ldc 87, 2) := by decide +kernel
theorem dX9_room_20 : decode cX9_room 20 = .ok (.invokevirtual 72, 3) := by decide +kernel
theorem dX9_room_23 : decode cX9_room 23 = .ok (.ireturn, 1) := by decide +kernel
theorem dX9_room_24 : decode cX9_room 24 = .ok (.iconst 0, 1) := by decide +kernel
theorem dX9_room_25 : decode cX9_room 25 = .ok (.istore_n 3, 1) := by decide +kernel
theorem dX9_room_26 : decode cX9_room 26 = .ok (.iconst (-1), 1) := by decide +kernel
theorem dX9_room_27 : decode cX9_room 27 = .ok (.istore 4, 2) := by decide +kernel
theorem dX9_room_29 : decode cX9_room 29 = .ok (.iconst 0, 1) := by decide +kernel
theorem dX9_room_30 : decode cX9_room 30 = .ok (.istore 5, 2) := by decide +kernel
theorem dX9_room_32 : decode cX9_room 32 = .ok (.iload 5, 2) := by decide +kernel
theorem dX9_room_34 : decode cX9_room 34 = .ok (.iconst 4, 1) := by decide +kernel
theorem dX9_room_35 : decode cX9_room 35 = .ok (.if_icmp .ge 50, 3) := by decide +kernel
theorem dX9_room_38 : decode cX9_room 38 = .ok (.aload_n 0, 1) := by decide +kernel
theorem dX9_room_39 : decode cX9_room 39 = .ok (.getfield 24, 3) := by decide +kernel
theorem dX9_room_42 : decode cX9_room 42 = .ok (.iload_n 1, 1) := by decide +kernel
theorem dX9_room_43 : decode cX9_room 43 = .ok (.invokevirtual 213, 3) := by decide +kernel
theorem dX9_room_46 : decode cX9_room 46 = .ok (.aload_n 0, 1) := by decide +kernel
theorem dX9_room_47 : decode cX9_room 47 = .ok (.getfield 24, 3) := by decide +kernel
theorem dX9_room_50 : decode cX9_room 50 = .ok (.iload 5, 2) := by decide +kernel
theorem dX9_room_52 : decode cX9_room 52 = .ok (.invokevirtual 242, 3) := by decide +kernel
theorem dX9_room_55 : decode cX9_room 55 = .ok (.aload_n 0, 1) := by decide +kernel
theorem dX9_room_56 : decode cX9_room 56 = .ok (.getfield 24, 3) := by decide +kernel
theorem dX9_room_59 : decode cX9_room 59 = .ok (.iload_n 2, 1) := by decide +kernel
theorem dX9_room_60 : decode cX9_room 60 = .ok (.invokevirtual 216, 3) := by decide +kernel
theorem dX9_room_63 : decode cX9_room 63 = .ok (.istore 6, 2) := by decide +kernel
theorem dX9_room_65 : decode cX9_room 65 = .ok (.iload 6, 2) := by decide +kernel
theorem dX9_room_67 : decode cX9_room 67 = .ok (.iload 4, 2) := by decide +kernel
theorem dX9_room_69 : decode cX9_room 69 = .ok (.if_icmp .le 10, 3) := by decide +kernel
theorem dX9_room_72 : decode cX9_room 72 = .ok (.iload 6, 2) := by decide +kernel
theorem dX9_room_74 : decode cX9_room 74 = .ok (.istore 4, 2) := by decide +kernel
theorem dX9_room_76 : decode cX9_room 76 = .ok (.iload 5, 2) := by decide +kernel
theorem dX9_room_78 : decode cX9_room 78 = .ok (.istore_n 3, 1) := by decide +kernel
theorem dX9_room_79 : decode cX9_room 79 = .ok (.iinc 5 1, 3) := by decide +kernel
theorem dX9_room_82 : decode cX9_room 82 = .ok (.goto (-50), 3) := by decide +kernel
theorem dX9_room_85 : decode cX9_room 85 = .ok (.iload_n 3, 1) := by decide +kernel
theorem dX9_room_86 : decode cX9_room 86 = .ok (.ireturn, 1) := by decide +kernel
def fX9_room_B17 (M : Mm) : Option (Int32 × Mm) :=
  bd (fX9_refuse (-1000000001 : Int32) M) fun r5 M6 =>
  some (r5, M6)
theorem tX9_room_B17 (l : Launch) (G : Gx) (M : Mm) : Sim cQi l layC G 6 cX9_room RX9 7 (some .int) 17 [(0, rf G 173)] [] M (fX9_room_B17 M) := by
  unfold fX9_room_B17
  refine s_aload_n 0 dX9_room_17 rfl rfl ?_
  refine s_ldc (v := -1000000001) dX9_room_18 q_425 ?_
  refine s_call_i (s_runV (ci := 9) (rest := []) rfl rfl (mX9_refuse l G (-1000000001 : Int32) M) ok_X9_refuse k_X9_72 rfl rfl rfl rfl dX9_room_20) fun r5 M6 => ?_
  exact s_iret rfl dX9_room_23
def fX9_room_B85 (v3 : Int32) (M : Mm) : Option (Int32 × Mm) :=
  some (v3, M)
theorem tX9_room_B85 (l : Launch) (G : Gx) (v3 : Int32) (M : Mm) : Sim cQi l layC G 6 cX9_room RX9 7 (some .int) 85 [(3, .int v3)] [] M (fX9_room_B85 v3 M) := by
  unfold fX9_room_B85
  refine s_iload_n 0 dX9_room_85 rfl rfl ?_
  exact s_iret rfl dX9_room_86
def fX9_room_B79 (q32 : Int32 → Int32 → Int32 → Mm → Option (Int32 × Mm)) (v5 : Int32) (v4 : Int32) (v3 : Int32) (v1 : Int32) (v2 : Int32) (M : Mm) : Option (Int32 × Mm) :=
  q32 (v5 + 1) v4 v3 M
theorem tX9_room_B79 (l : Launch) (G : Gx) (v5 : Int32) (v4 : Int32) (v3 : Int32) (v1 : Int32) (v2 : Int32) (q32 : Int32 → Int32 → Int32 → Mm → Option (Int32 × Mm)) (hq32 : ∀ (v5 : Int32) (v4 : Int32) (v3 : Int32) (M : Mm), Sim cQi l layC G 6 cX9_room RX9 7 (some .int) 32 [(5, .int v5), (4, .int v4), (3, .int v3), (0, rf G 173), (1, .int v1), (2, .int v2)] [] M (q32 v5 v4 v3 M)) (M : Mm) : Sim cQi l layC G 6 cX9_room RX9 7 (some .int) 79 [(5, .int v5), (4, .int v4), (3, .int v3), (0, rf G 173), (1, .int v1), (2, .int v2)] [] M (fX9_room_B79 q32 v5 v4 v3 v1 v2 M) := by
  unfold fX9_room_B79
  refine s_iinc (k := 0) (lv' := [(5, .int (v5 + 1)), (4, .int v4), (3, .int v3), (0, rf G 173), (1, .int v1), (2, .int v2)]) dX9_room_79 rfl ci_1 rfl rfl ?_
  refine s_goto (tgt := 32) dX9_room_82 (by decide) ?_
  exact s_sub [0, 1, 2, 3, 4, 5] rfl (hq32 (v5 + 1) v4 v3 M)
def fX9_room_L32b (v1 : Int32) (v2 : Int32) (q32 : Int32 → Int32 → Int32 → Mm → Option (Int32 × Mm)) (v5 : Int32) (v4 : Int32) (v3 : Int32) (M : Mm) : Option (Int32 × Mm) :=
  if (4 : Int32) ≤ v5 then (fX9_room_B85 v3 M)
  else bd (fX0_startPage v1 M) fun r7 M8 =>
  bd (fX0_bringTo v5 M8) fun r9 M10 =>
  bd (fX0_clearInARun v2 M10) fun r11 M12 =>
  if r11 ≤ v4 then (fX9_room_B79 q32 v5 v4 v3 v1 v2 M12)
  else fX9_room_B79 q32 v5 r11 v5 v1 v2 M12
def fX9_room_L32 (v1 : Int32) (v2 : Int32) : Nat → Int32 → Int32 → Int32 → Mm → Option (Int32 × Mm)
  | 0 => fun _ _ _ _ => none
  | n + 1 => fX9_room_L32b v1 v2 (fX9_room_L32 v1 v2 n)
theorem tX9_room_L32b (l : Launch) (G : Gx) (v1 : Int32) (v2 : Int32) (q32 : Int32 → Int32 → Int32 → Mm → Option (Int32 × Mm)) (hq32 : ∀ (v5 : Int32) (v4 : Int32) (v3 : Int32) (M : Mm), Sim cQi l layC G 6 cX9_room RX9 7 (some .int) 32 [(5, .int v5), (4, .int v4), (3, .int v3), (0, rf G 173), (1, .int v1), (2, .int v2)] [] M (q32 v5 v4 v3 M)) (v5 : Int32) (v4 : Int32) (v3 : Int32) (M : Mm) : Sim cQi l layC G 6 cX9_room RX9 7 (some .int) 32 [(5, .int v5), (4, .int v4), (3, .int v3), (0, rf G 173), (1, .int v1), (2, .int v2)] [] M (fX9_room_L32b v1 v2 q32 v5 v4 v3 M) := by
  unfold fX9_room_L32b
  refine s_iload 0 dX9_room_32 rfl ?_
  refine s_iconst (v := 4) dX9_room_34 ci_4 ?_
  refine s_icmpge (tgt := 85) dX9_room_35 (by decide) ?_ ?_
  · exact s_sub [2] rfl (tX9_room_B85 l G v3 M)
  · refine s_aload_n 3 dX9_room_38 rfl rfl ?_
    refine g_X9_24 (q := 136) rfl rfl dX9_room_39 ?_
    refine s_iload_n 4 dX9_room_42 rfl rfl ?_
    refine s_call_v (s_runV (ci := 0) (rest := []) rfl rfl (mX0_startPage l G v1 M) ok_X0_startPage k_X9_213 rfl rfl rfl rfl dX9_room_43) fun r7 M8 => ?_
    refine s_aload_n 3 dX9_room_46 rfl rfl ?_
    refine g_X9_24 (q := 136) rfl rfl dX9_room_47 ?_
    refine s_iload 0 dX9_room_50 rfl ?_
    refine s_call_v (s_runV (ci := 0) (rest := []) rfl rfl (mX0_bringTo l G v5 M8) ok_X0_bringTo k_X9_242 rfl rfl rfl rfl dX9_room_52) fun r9 M10 => ?_
    refine s_aload_n 3 dX9_room_55 rfl rfl ?_
    refine g_X9_24 (q := 136) rfl rfl dX9_room_56 ?_
    refine s_iload_n 5 dX9_room_59 rfl rfl ?_
    refine s_call_i (s_runV (ci := 0) (rest := []) rfl rfl (mX0_clearInARun l G v2 M10) ok_X0_clearInARun k_X9_216 rfl rfl rfl rfl dX9_room_60) fun r11 M12 => ?_
    refine s_istore (lv' := [(6, .int r11), (5, .int v5), (4, .int v4), (3, .int v3), (0, rf G 173), (1, .int v1), (2, .int v2)]) dX9_room_63 rfl rfl ?_
    refine s_iload 0 dX9_room_65 rfl ?_
    refine s_iload 2 dX9_room_67 rfl ?_
    refine s_icmple (tgt := 79) dX9_room_69 (by decide) ?_ ?_
    · exact s_sub [1, 2, 3, 4, 5, 6] rfl (tX9_room_B79 l G v5 v4 v3 v1 v2 q32 hq32 M12)
    · refine s_iload 0 dX9_room_72 rfl ?_
      refine s_istore (lv' := [(4, .int r11), (6, .int r11), (5, .int v5), (3, .int v3), (0, rf G 173), (1, .int v1), (2, .int v2)]) dX9_room_74 rfl rfl ?_
      refine s_iload 2 dX9_room_76 rfl ?_
      refine s_istore_n (lv' := [(3, .int v5), (4, .int r11), (6, .int r11), (5, .int v5), (0, rf G 173), (1, .int v1), (2, .int v2)]) dX9_room_78 rfl rfl rfl ?_
      exact s_sub [3, 1, 0, 4, 5, 6] rfl (tX9_room_B79 l G v5 r11 v5 v1 v2 q32 hq32 M12)
theorem tX9_room_L32 (l : Launch) (G : Gx) (v1 : Int32) (v2 : Int32) : ∀ (n : Nat) (v5 : Int32) (v4 : Int32) (v3 : Int32) (M : Mm), Sim cQi l layC G 6 cX9_room RX9 7 (some .int) 32 [(5, .int v5), (4, .int v4), (3, .int v3), (0, rf G 173), (1, .int v1), (2, .int v2)] [] M (fX9_room_L32 v1 v2 n v5 v4 v3 M)
  | 0, _, _, _, _ => s_none
  | n + 1, v5, v4, v3, M => tX9_room_L32b l G v1 v2 _ (tX9_room_L32 l G v1 v2 n) v5 v4 v3 M
def fX9_room (a1 : Int32) (a2 : Int32) (M : Mm) : Option (Int32 × Mm) :=
  bd (fX9_isPage a1 M) fun r1 M2 =>
  if r1 = true then (bd (fX9_isWithin a2 (0 : Int32) (99 : Int32) M2) fun r3 M4 =>
  if r3 = true then (fX9_room_L32 a1 a2 FU (0 : Int32) (-1 : Int32) (0 : Int32) M4)
  else fX9_room_B17 M4)
  else fX9_room_B17 M2
theorem mX9_room (l : Launch) (G : Gx) (a1 : Int32) (a2 : Int32) (M : Mm) : Mt cQi l layC G 6 yX9_room cX9_room 7 (some .int) [rf G 173, .int a1, .int a2] M (fX9_room a1 a2 M) := by
  refine Mt.of2 (own := RX9) (lv := [(0, rf G 173), (1, .int a1), (2, .int a2)]) rfl (by decide +kernel) rfl rfl ?_
  unfold fX9_room
  refine s_iload_n 1 dX9_room_0 rfl rfl ?_
  refine s_call_z (s_runS (rest := []) (mX9_isPage l G a1 M) ok_X9_isPage k_X9_192 rfl rfl rfl rfl dX9_room_1) fun r1 M2 => ?_
  refine s_ifeqB (tgt := 17) dX9_room_4 (by decide) ?_ ?_
  · exact s_sub [0] rfl (tX9_room_B17 l G M2)
  · refine s_iload_n 2 dX9_room_7 rfl rfl ?_
    refine s_iconst (v := 0) dX9_room_8 ci_0 ?_
    refine s_bipush (v := 99) dX9_room_9 cb_99 ?_
    refine s_call_z (s_runS (rest := []) (mX9_isWithin l G a2 (0 : Int32) (99 : Int32) M2) ok_X9_isWithin k_X9_83 rfl rfl rfl rfl dX9_room_11) fun r3 M4 => ?_
    refine s_ifneB (tgt := 24) dX9_room_14 (by decide) ?_ ?_
    · refine s_iconst (v := 0) dX9_room_24 ci_0 ?_
      refine s_istore_n (lv' := [(3, .int (0 : Int32)), (0, rf G 173), (1, .int a1), (2, .int a2)]) dX9_room_25 rfl rfl rfl ?_
      refine s_iconst (v := -1) dX9_room_26 ci_m1 ?_
      refine s_istore (lv' := [(4, .int (-1 : Int32)), (3, .int (0 : Int32)), (0, rf G 173), (1, .int a1), (2, .int a2)]) dX9_room_27 rfl rfl ?_
      refine s_iconst (v := 0) dX9_room_29 ci_0 ?_
      refine s_istore (lv' := [(5, .int (0 : Int32)), (4, .int (-1 : Int32)), (3, .int (0 : Int32)), (0, rf G 173), (1, .int a1), (2, .int a2)]) dX9_room_30 rfl rfl ?_
      exact s_sub [0, 1, 2, 3, 4, 5] rfl (tX9_room_L32 l G a1 a2 FU (0 : Int32) (-1 : Int32) (0 : Int32) M4)
    · exact s_sub [0] rfl (tX9_room_B17 l G M4)
theorem dX9_needs_0 : decode cX9_needs 0 = .ok (.aload_n 0, 1) := by decide +kernel
theorem dX9_needs_1 : decode cX9_needs 1 = .ok (.getfield 12, 3) := by decide +kernel
theorem dX9_needs_4 : decode cX9_needs 4 = .ok (.iload_n 1, 1) := by decide +kernel
theorem dX9_needs_5 : decode cX9_needs 5 = .ok (.invokevirtual 79, 3) := by decide +kernel
theorem dX9_needs_8 : decode cX9_needs 8 = .ok (.ifCond .eq 13, 3) := by decide +kernel
theorem dX9_needs_11 : decode cX9_needs 11 = .ok (.iload_n 2, 1) := by decide +kernel
theorem dX9_needs_12 : decode cX9_needs 12 = .ok (.iconst 1, 1) := by decide +kernel
theorem dX9_needs_13 : decode cX9_needs 13 = .ok (.bipush 30, 2) := by decide +kernel
theorem dX9_needs_15 : decode cX9_needs 15 = .ok (.invokestatic 83, 3) := by decide +kernel
theorem dX9_needs_18 : decode cX9_needs 18 = .ok (.ifCond .ne 10, 3) := by decide +kernel
theorem dX9_needs_21 : decode cX9_needs 21 = .ok (.aload_n 0, 1) := by decide +kernel
theorem dX9_needs_22 : decode cX9_needs 22 = .ok (.ldc 87, 2) := by decide +kernel
theorem dX9_needs_24 : decode cX9_needs 24 = .ok (.invokevirtual 72, 3) := by decide +kernel
theorem dX9_needs_27 : decode cX9_needs 27 = .ok (.ireturn, 1) := by decide +kernel
theorem dX9_needs_28 : decode cX9_needs 28 = .ok (.aload_n 0, 1) := by decide +kernel
theorem dX9_needs_29 : decode cX9_needs 29 = .ok (.getfield 12, 3) := by decide +kernel
theorem dX9_needs_32 : decode cX9_needs 32 = .ok (.getfield 88, 3) := by decide +kernel
theorem dX9_needs_35 : decode cX9_needs 35 = .ok (.iload_n 1, 1) := by decide +kernel
theorem dX9_needs_36 : decode cX9_needs 36 = .ok (.aaload, 1) := by decide +kernel
theorem dX9_needs_37 : decode cX9_needs 37 = .ok (.astore_n 3, 1) := by decide +kernel
theorem dX9_needs_38 : decode cX9_needs 38 = .ok (.aload_n 3, 1) := by decide +kernel
theorem dX9_needs_39 : decode cX9_needs 39 = .ok (.getfield 117, 3) := by decide +kernel
theorem dX9_needs_42 : decode cX9_needs 42 = .ok (.ifCond .ge 10, 3) := by decide +kernel
theorem dX9_needs_45 : decode cX9_needs 45 = .ok (.aload_n 0, 1) := by decide +kernel
theorem dX9_needs_46 : decode cX9_needs 46 = .ok (.ldc 120, 2) := by decide +kernel
theorem dX9_needs_48 : decode cX9_needs 48 = .ok (.invokevirtual 72, 3) := by decide +kernel
theorem dX9_needs_51 : decode cX9_needs 51 = .ok (.ireturn, 1) := by decide +kernel
theorem dX9_needs_52 : decode cX9_needs 52 = .ok (.iconst 0, 1) := by decide +kernel
theorem dX9_needs_53 : decode cX9_needs 53 = .ok (.istore 4, 2) := by decide +kernel
theorem dX9_needs_55 : decode cX9_needs 55 = .ok (.iload 4, 2) := by decide +kernel
theorem dX9_needs_57 : decode cX9_needs 57 = .ok (.sipush 999, 3) := by decide +kernel
theorem dX9_needs_60 : decode cX9_needs 60 = .ok (.if_icmp .gt 46, 3) := by decide +kernel
theorem dX9_needs_63 : decode cX9_needs 63 = .ok (.aload_n 0, 1) := by decide +kernel
theorem dX9_needs_64 : decode cX9_needs 64 = .ok (.getfield 24, 3) := by decide +kernel
theorem dX9_needs_67 : decode cX9_needs 67 = .ok (.aload_n 3, 1) := by decide +kernel
theorem dX9_needs_68 : decode cX9_needs 68 = .ok (.invokevirtual 219, 3) := by decide +kernel
theorem dX9_needs_71 : decode cX9_needs 71 = .ok (.aload_n 0, 1) := by decide +kernel
theorem dX9_needs_72 : decode cX9_needs 72 = .ok (.getfield 24, 3) := by decide +kernel
theorem dX9_needs_75 : decode cX9_needs 75 = .ok (.getfield 227, 3) := by decide +kernel
theorem dX9_needs_78 : decode cX9_needs 78 = .ok (.iconst 0, 1) := by decide +kernel
theorem dX9_needs_79 : decode cX9_needs 79 = .ok (.aaload, 1) := by decide +kernel
theorem dX9_needs_80 : decode cX9_needs 80 = .ok (.iload 4, 2) := by decide +kernel
theorem dX9_needs_82 : decode cX9_needs 82 = .ok (.putfield 105, 3) := by decide +kernel
theorem dX9_needs_85 : decode cX9_needs 85 = .ok (.aload_n 0, 1) := by decide +kernel
theorem dX9_needs_86 : decode cX9_needs 86 = .ok (.getfield 24, 3) := by decide +kernel
theorem dX9_needs_89 : decode cX9_needs 89 = .ok (.iload_n 2, 1) := by decide +kernel
theorem dX9_needs_90 : decode cX9_needs 90 = .ok (.invokevirtual 216, 3) := by decide +kernel
theorem dX9_needs_93 : decode cX9_needs 93 = .ok (.iload_n 2, 1) := by decide +kernel
theorem dX9_needs_94 : decode cX9_needs 94 = .ok (.if_icmp .ne 6, 3) := by decide +kernel
theorem dX9_needs_97 : decode cX9_needs 97 = .ok (.iload 4, 2) := by decide +kernel
theorem dX9_needs_99 : decode cX9_needs 99 = .ok (.ireturn, 1) := by decide +kernel
theorem dX9_needs_100 : decode cX9_needs 100 = .ok (.iinc 4 1, 3) := by decide +kernel
theorem dX9_needs_103 : decode cX9_needs 103 = .ok (.goto (-48), 3) := by decide +kernel
theorem dX9_needs_106 : decode cX9_needs 106 = .ok (.aload_n 0, 1) := by decide +kernel
theorem dX9_needs_107 : decode cX9_needs 107 = .ok (.ldc 223, 2) := by decide +kernel
theorem dX9_needs_109 : decode cX9_needs 109 = .ok (.invokevirtual 72, 3) := by decide +kernel
theorem dX9_needs_112 : decode cX9_needs 112 = .ok (.ireturn, 1) := by decide +kernel
