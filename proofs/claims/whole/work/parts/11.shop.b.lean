def fX7_placeNotSet_B56 (v1 : Int32) (M : Mm) : Option (Int32 × Mm) :=
  some (v1, M)
theorem tX7_placeNotSet_B56 (l : Launch) (G : Gx) (v1 : Int32) (M : Mm) : Sim cQi l layC G 4 cX7_placeNotSet RX7 2 (some .int) 56 [(1, .int v1)] [] M (fX7_placeNotSet_B56 v1 M) := by
  unfold fX7_placeNotSet_B56
  refine s_iload_n 0 dX7_placeNotSet_56 rfl rfl ?_
  exact s_iret rfl dX7_placeNotSet_57
def fX7_placeNotSet_L2b (q2 : Int32 → Mm → Option (Int32 × Mm)) (v1 : Int32) (M : Mm) : Option (Int32 × Mm) :=
  if (M 64 1) ≤ v1 then (fX7_placeNotSet_B56 v1 M)
  else bd (fX5_at 64 v1 M) fun r1 M2 =>
  bd (fX9_isSmallLetter r1 M2) fun r3 M4 =>
  if r3 = true then (bd (fX7_timesUpTo v1 M4) fun r5 M6 =>
  bd (fX5_at 64 v1 M6) fun r7 M8 =>
  bd (fX9_glyphOf r7 M8) fun r9 M10 =>
  bd (fX7_caseOf r9 M10) fun r11 M12 =>
  if r11 < r5 then (fX7_placeNotSet_B56 v1 M12)
  else q2 (v1 + 1) M12)
  else fX7_placeNotSet_B56 v1 M4
def fX7_placeNotSet_L2  : Nat → Int32 → Mm → Option (Int32 × Mm)
  | 0 => fun _ _ => none
  | n + 1 => fX7_placeNotSet_L2b  (fX7_placeNotSet_L2  n)
theorem tX7_placeNotSet_L2b (l : Launch) (G : Gx) (q2 : Int32 → Mm → Option (Int32 × Mm)) (hq2 : ∀ (v1 : Int32) (M : Mm), Sim cQi l layC G 4 cX7_placeNotSet RX7 2 (some .int) 2 [(1, .int v1), (0, rf G 0)] [] M (q2 v1 M)) (v1 : Int32) (M : Mm) : Sim cQi l layC G 4 cX7_placeNotSet RX7 2 (some .int) 2 [(1, .int v1), (0, rf G 0)] [] M (fX7_placeNotSet_L2b q2 v1 M) := by
  unfold fX7_placeNotSet_L2b
  refine s_iload_n 0 dX7_placeNotSet_2 rfl rfl ?_
  refine s_aload_n 1 dX7_placeNotSet_3 rfl rfl ?_
  refine g_X7_53 (q := 64) rfl rfl dX7_placeNotSet_4 ?_
  refine g_X7_166 rfl dX7_placeNotSet_7 ?_
  refine s_icmpge (tgt := 56) dX7_placeNotSet_10 (by decide) ?_ ?_
  · exact s_sub [0] rfl (tX7_placeNotSet_B56 l G v1 M)
  · refine s_aload_n 1 dX7_placeNotSet_13 rfl rfl ?_
    refine g_X7_53 (q := 64) rfl rfl dX7_placeNotSet_14 ?_
    refine s_iload_n 0 dX7_placeNotSet_17 rfl rfl ?_
    refine s_call_i (s_runV (ci := 5) (rest := []) rfl rfl (mX5_at l G 64 v1 M) ok_X5_at k_X7_162 rfl rfl rfl rfl dX7_placeNotSet_18) fun r1 M2 => ?_
    refine s_call_z (s_runSN (rest := []) (mX9_isSmallLetter l G r1 M2) ok_X9_isSmallLetter k_X7_188 rfl rfl rfl rfl dX7_placeNotSet_21) fun r3 M4 => ?_
    refine s_ifeqB (tgt := 56) dX7_placeNotSet_24 (by decide) ?_ ?_
    · exact s_sub [0] rfl (tX7_placeNotSet_B56 l G v1 M4)
    · refine s_aload_n 1 dX7_placeNotSet_27 rfl rfl ?_
      refine s_iload_n 0 dX7_placeNotSet_28 rfl rfl ?_
      refine s_call_i (s_runV (ci := 7) (rest := []) rfl rfl (mX7_timesUpTo l G v1 M4) ok_X7_timesUpTo k_X7_194 rfl rfl rfl rfl dX7_placeNotSet_29) fun r5 M6 => ?_
      refine s_aload_n 1 dX7_placeNotSet_32 rfl rfl ?_
      refine s_aload_n 1 dX7_placeNotSet_33 rfl rfl ?_
      refine g_X7_53 (q := 64) rfl rfl dX7_placeNotSet_34 ?_
      refine s_iload_n 0 dX7_placeNotSet_37 rfl rfl ?_
      refine s_call_i (s_runV (ci := 5) (rest := [rf G 0, .int r5]) rfl rfl (mX5_at l G 64 v1 M6) ok_X5_at k_X7_162 rfl rfl rfl rfl dX7_placeNotSet_38) fun r7 M8 => ?_
      refine s_call_i (s_runSN (rest := [rf G 0, .int r5]) (mX9_glyphOf l G r7 M8) ok_X9_glyphOf k_X7_191 rfl rfl rfl rfl dX7_placeNotSet_41) fun r9 M10 => ?_
      refine s_call_i (s_runV (ci := 7) (rest := [.int r5]) rfl rfl (mX7_caseOf l G r9 M10) ok_X7_caseOf k_X7_197 rfl rfl rfl rfl dX7_placeNotSet_44) fun r11 M12 => ?_
      refine s_icmpgt (tgt := 56) dX7_placeNotSet_47 (by decide) ?_ ?_
      · exact s_sub [0] rfl (tX7_placeNotSet_B56 l G v1 M12)
      · refine s_iinc (k := 0) (lv' := [(1, .int (v1 + 1)), (0, rf G 0)]) dX7_placeNotSet_50 rfl ci_1 rfl rfl ?_
        refine s_goto (tgt := 2) dX7_placeNotSet_53 (by decide) ?_
        exact s_sub [0, 1] rfl (hq2 (v1 + 1) M12)
theorem tX7_placeNotSet_L2 (l : Launch) (G : Gx) : ∀ (n : Nat) (v1 : Int32) (M : Mm), Sim cQi l layC G 4 cX7_placeNotSet RX7 2 (some .int) 2 [(1, .int v1), (0, rf G 0)] [] M (fX7_placeNotSet_L2 n v1 M)
  | 0, _, _ => s_none
  | n + 1, v1, M => tX7_placeNotSet_L2b l G _ (tX7_placeNotSet_L2 l G n) v1 M
def fX7_placeNotSet  (M : Mm) : Option (Int32 × Mm) :=
  fX7_placeNotSet_L2 FU (0 : Int32) M
theorem mX7_placeNotSet (l : Launch) (G : Gx)  (M : Mm) : Mt cQi l layC G 4 yX7_placeNotSet cX7_placeNotSet 2 (some .int) [rf G 0] M (fX7_placeNotSet M) := by
  refine Mt.of2 (own := RX7) (lv := [(0, rf G 0)]) rfl (by decide +kernel) rfl rfl ?_
  unfold fX7_placeNotSet
  refine s_iconst (v := 0) dX7_placeNotSet_0 ci_0 ?_
  refine s_istore_n (lv' := [(1, .int (0 : Int32)), (0, rf G 0)]) dX7_placeNotSet_1 rfl rfl rfl ?_
  exact s_sub [0, 1] rfl (tX7_placeNotSet_L2 l G FU (0 : Int32) M)
theorem dX7_warmDay_0 : decode cX7_warmDay 0 = .ok (.aload_n 0, 1) := by decide +kernel
theorem dX7_warmDay_1 : decode cX7_warmDay 1 = .ok (.aload_n 0, 1) := by decide +kernel
theorem dX7_warmDay_2 : decode cX7_warmDay 2 = .ok (.getfield 19, 3) := by decide +kernel
theorem dX7_warmDay_5 : decode cX7_warmDay 5 = .ok (.ldc 200, 2) := by decide +kernel
theorem dX7_warmDay_7 : decode cX7_warmDay 7 = .ok (.imul, 1) := by decide +kernel
theorem dX7_warmDay_8 : decode cX7_warmDay 8 = .ok (.sipush 12345, 3) := by decide +kernel
theorem dX7_warmDay_11 : decode cX7_warmDay 11 = .ok (.iadd, 1) := by decide +kernel
theorem dX7_warmDay_12 : decode cX7_warmDay 12 = .ok (.putfield 19, 3) := by decide +kernel
theorem dX7_warmDay_15 : decode cX7_warmDay 15 = .ok (.aload_n 0, 1) := by decide +kernel
theorem dX7_warmDay_16 : decode cX7_warmDay 16 = .ok (.getfield 19, 3) := by decide +kernel
theorem dX7_warmDay_19 : decode cX7_warmDay 19 = .ok (.bipush 8, 2) := by decide +kernel
theorem dX7_warmDay_21 : decode cX7_warmDay 21 = .ok (.iushr, 1) := by decide +kernel
theorem dX7_warmDay_22 : decode cX7_warmDay 22 = .ok (.bipush 7, 2) := by decide +kernel
theorem dX7_warmDay_24 : decode cX7_warmDay 24 = .ok (.irem, 1) := by decide +kernel
theorem dX7_warmDay_25 : decode cX7_warmDay 25 = .ok (.iconst 3, 1) := by decide +kernel
theorem dX7_warmDay_26 : decode cX7_warmDay 26 = .ok (.isub, 1) := by decide +kernel
theorem dX7_warmDay_27 : decode cX7_warmDay 27 = .ok (.istore_n 1, 1) := by decide +kernel
theorem dX7_warmDay_28 : decode cX7_warmDay 28 = .ok (.iconst 0, 1) := by decide +kernel
theorem dX7_warmDay_29 : decode cX7_warmDay 29 = .ok (.istore_n 2, 1) := by decide +kernel
theorem dX7_warmDay_30 : decode cX7_warmDay 30 = .ok (.iload_n 2, 1) := by decide +kernel
theorem dX7_warmDay_31 : decode cX7_warmDay 31 = .ok (.iconst 4, 1) := by decide +kernel
theorem dX7_warmDay_32 : decode cX7_warmDay 32 = .ok (.if_icmp .ge 30, 3) := by decide +kernel
theorem dX7_warmDay_35 : decode cX7_warmDay 35 = .ok (.aload_n 0, 1) := by decide +kernel
theorem dX7_warmDay_36 : decode cX7_warmDay 36 = .ok (.getfield 9, 3) := by decide +kernel
theorem dX7_warmDay_39 : decode cX7_warmDay 39 = .ok (.iload_n 2, 1) := by decide +kernel
theorem dX7_warmDay_40 : decode cX7_warmDay 40 = .ok (.aload_n 0, 1) := by decide +kernel
theorem dX7_warmDay_41 : decode cX7_warmDay 41 = .ok (.getfield 9, 3) := by decide +kernel
theorem dX7_warmDay_44 : decode cX7_warmDay 44 = .ok (.iload_n 2, 1) := by decide +kernel
theorem dX7_warmDay_45 : decode cX7_warmDay 45 = .ok (.iaload, 1) := by decide +kernel
theorem dX7_warmDay_46 : decode cX7_warmDay 46 = .ok (.iload_n 1, 1) := by decide +kernel
theorem dX7_warmDay_47 : decode cX7_warmDay 47 = .ok (.isub, 1) := by decide +kernel
theorem dX7_warmDay_48 : decode cX7_warmDay 48 = .ok (.bipush (-9), 2) := by decide +kernel
theorem dX7_warmDay_50 : decode cX7_warmDay 50 = .ok (.bipush 20, 2) := by decide +kernel
theorem dX7_warmDay_52 : decode cX7_warmDay 52 = .ok (.invokestatic 153, 3) := by decide +kernel
theorem dX7_warmDay_55 : decode cX7_warmDay 55 = .ok (.iastore, 1) := by decide +kernel
theorem dX7_warmDay_56 : decode cX7_warmDay 56 = .ok (.iinc 2 1, 3) := by decide +kernel
theorem dX7_warmDay_59 : decode cX7_warmDay 59 = .ok (.goto (-29), 3) := by decide +kernel
theorem dX7_warmDay_62 : decode cX7_warmDay 62 = .ok (.iconst 0, 1) := by decide +kernel
theorem dX7_warmDay_63 : decode cX7_warmDay 63 = .ok (.istore_n 2, 1) := by decide +kernel
theorem dX7_warmDay_64 : decode cX7_warmDay 64 = .ok (.iconst 0, 1) := by decide +kernel
theorem dX7_warmDay_65 : decode cX7_warmDay 65 = .ok (.istore_n 3, 1) := by decide +kernel
theorem dX7_warmDay_66 : decode cX7_warmDay 66 = .ok (.iload_n 3, 1) := by decide +kernel
theorem dX7_warmDay_67 : decode cX7_warmDay 67 = .ok (.aload_n 0, 1) := by decide +kernel
theorem dX7_warmDay_68 : decode cX7_warmDay 68 = .ok (.getfield 73, 3) := by decide +kernel
theorem dX7_warmDay_71 : decode cX7_warmDay 71 = .ok (.if_icmp .ge 45, 3) := by decide +kernel
theorem dX7_warmDay_74 : decode cX7_warmDay 74 = .ok (.aload_n 0, 1) := by decide +kernel
theorem dX7_warmDay_75 : decode cX7_warmDay 75 = .ok (.getfield 24, 3) := by decide +kernel
theorem dX7_warmDay_78 : decode cX7_warmDay 78 = .ok (.iload_n 3, 1) := by decide +kernel
theorem dX7_warmDay_79 : decode cX7_warmDay 79 = .ok (.aaload, 1) := by decide +kernel
theorem dX7_warmDay_80 : decode cX7_warmDay 80 = .ok (.getfield 124, 3) := by decide +kernel
theorem dX7_warmDay_83 : decode cX7_warmDay 83 = .ok (.ifCond .ge 27, 3) := by decide +kernel
theorem dX7_warmDay_86 : decode cX7_warmDay 86 = .ok (.iload_n 2, 1) := by decide +kernel
theorem dX7_warmDay_87 : decode cX7_warmDay 87 = .ok (.aload_n 0, 1) := by decide +kernel
theorem dX7_warmDay_88 : decode cX7_warmDay 88 = .ok (.getfield 24, 3) := by decide +kernel
theorem dX7_warmDay_91 : decode cX7_warmDay 91 = .ok (.iload_n 3, 1) := by decide +kernel
theorem dX7_warmDay_92 : decode cX7_warmDay 92 = .ok (.aaload, 1) := by decide +kernel
theorem dX7_warmDay_93 : decode cX7_warmDay 93 = .ok (.aload_n 0, 1) := by decide +kernel
theorem dX7_warmDay_94 : decode cX7_warmDay 94 = .ok (.aload_n 0, 1) := by decide +kernel
theorem dX7_warmDay_95 : decode cX7_warmDay 95 = .ok (.getfield 24, 3) := by decide +kernel
theorem dX7_warmDay_98 : decode cX7_warmDay 98 = .ok (.iload_n 3, 1) := by decide +kernel
theorem dX7_warmDay_99 : decode cX7_warmDay 99 = .ok (.aaload, 1) := by decide +kernel
theorem dX7_warmDay_100 : decode cX7_warmDay 100 = .ok (.invokevirtual 130, 3) := by decide +kernel
theorem dX7_warmDay_103 : decode cX7_warmDay 103 = .ok (.iconst 2, 1) := by decide +kernel
theorem dX7_warmDay_104 : decode cX7_warmDay 104 = .ok (.idiv, 1) := by decide +kernel
theorem dX7_warmDay_105 : decode cX7_warmDay 105 = .ok (.invokevirtual 176, 3) := by decide +kernel
theorem dX7_warmDay_108 : decode cX7_warmDay 108 = .ok (.iadd, 1) := by decide +kernel
theorem dX7_warmDay_109 : decode cX7_warmDay 109 = .ok (.istore_n 2, 1) := by decide +kernel
theorem dX7_warmDay_110 : decode cX7_warmDay 110 = .ok (.iinc 3 1, 3) := by decide +kernel
theorem dX7_warmDay_113 : decode cX7_warmDay 113 = .ok (.goto (-47), 3) := by decide +kernel
theorem dX7_warmDay_116 : decode cX7_warmDay 116 = .ok (.aload_n 0, 1) := by decide +kernel
theorem dX7_warmDay_117 : decode cX7_warmDay 117 = .ok (.dup, 1) := by decide +kernel
theorem dX7_warmDay_118 : decode cX7_warmDay 118 = .ok (.getfield 70, 3) := by decide +kernel
theorem dX7_warmDay_121 : decode cX7_warmDay 121 = .ok (.iload_n 2, 1) := by decide +kernel
theorem dX7_warmDay_122 : decode cX7_warmDay 122 = .ok (.iadd, 1) := by decide +kernel
theorem dX7_warmDay_123 : decode cX7_warmDay 123 = .ok (.putfield 70, 3) := by decide +kernel
theorem dX7_warmDay_126 : decode cX7_warmDay 126 = .ok (.iload_n 2, 1) := by decide +kernel
theorem dX7_warmDay_127 : decode cX7_warmDay 127 = .ok (.ireturn, 1) := by decide +kernel
def fX7_warmDay_B116 (v2 : Int32) (M : Mm) : Option (Int32 × Mm) :=
  lt (wr M 0 3 ((M 0 3) + v2)) fun M3 =>
  some (v2, M3)
theorem tX7_warmDay_B116 (l : Launch) (G : Gx) (v2 : Int32) (M : Mm) : Sim cQi l layC G 4 cX7_warmDay RX7 4 (some .int) 116 [(2, .int v2), (0, rf G 0)] [] M (fX7_warmDay_B116 v2 M) := by
  unfold fX7_warmDay_B116
  refine s_aload_n 1 dX7_warmDay_116 rfl rfl ?_
  refine s_dup dX7_warmDay_117 rfl ?_
  refine g_X7_70 rfl dX7_warmDay_118 ?_
  refine s_iload_n 0 dX7_warmDay_121 rfl rfl ?_
  refine s_iadd dX7_warmDay_122 ?_
  refine p_X7_70 rfl dX7_warmDay_123 ?_
  refine s_letM fun M3 => ?_
  refine s_iload_n 0 dX7_warmDay_126 rfl rfl ?_
  exact s_iret rfl dX7_warmDay_127
def fX7_warmDay_B110 (q66 : Int32 → Int32 → Mm → Option (Int32 × Mm)) (v3 : Int32) (v2 : Int32) (M : Mm) : Option (Int32 × Mm) :=
  q66 (v3 + 1) v2 M
theorem tX7_warmDay_B110 (l : Launch) (G : Gx) (v3 : Int32) (v2 : Int32) (q66 : Int32 → Int32 → Mm → Option (Int32 × Mm)) (hq66 : ∀ (v3 : Int32) (v2 : Int32) (M : Mm), Sim cQi l layC G 4 cX7_warmDay RX7 4 (some .int) 66 [(3, .int v3), (2, .int v2), (0, rf G 0)] [] M (q66 v3 v2 M)) (M : Mm) : Sim cQi l layC G 4 cX7_warmDay RX7 4 (some .int) 110 [(3, .int v3), (2, .int v2), (0, rf G 0)] [] M (fX7_warmDay_B110 q66 v3 v2 M) := by
  unfold fX7_warmDay_B110
  refine s_iinc (k := 0) (lv' := [(3, .int (v3 + 1)), (2, .int v2), (0, rf G 0)]) dX7_warmDay_110 rfl ci_1 rfl rfl ?_
  refine s_goto (tgt := 66) dX7_warmDay_113 (by decide) ?_
  exact s_sub [0, 1, 2] rfl (hq66 (v3 + 1) v2 M)
def fX7_warmDay_L66b (q66 : Int32 → Int32 → Mm → Option (Int32 × Mm)) (v3 : Int32) (v2 : Int32) (M : Mm) : Option (Int32 × Mm) :=
  if (M 0 6) ≤ v3 then (fX7_warmDay_B116 v2 M)
  else gd (inb v3 24) <|
  gd (isC layC (4 + 1 * ix v3) 3) <|
  if 0 ≤ (M (4 + 1 * ix v3) 5) then (fX7_warmDay_B110 q66 v3 v2 M)
  else bd (fX7_meltsOf (4 + 1 * ix v3) M) fun r6 M7 =>
  bd (fX3_takeIce (4 + 1 * ix v3) (r6 / (2 : Int32)) M7) fun r8 M9 =>
  lt (v2 + r8) fun x10 =>
  fX7_warmDay_B110 q66 v3 x10 M9
def fX7_warmDay_L66  : Nat → Int32 → Int32 → Mm → Option (Int32 × Mm)
  | 0 => fun _ _ _ => none
  | n + 1 => fX7_warmDay_L66b  (fX7_warmDay_L66  n)
theorem tX7_warmDay_L66b (l : Launch) (G : Gx) (q66 : Int32 → Int32 → Mm → Option (Int32 × Mm)) (hq66 : ∀ (v3 : Int32) (v2 : Int32) (M : Mm), Sim cQi l layC G 4 cX7_warmDay RX7 4 (some .int) 66 [(3, .int v3), (2, .int v2), (0, rf G 0)] [] M (q66 v3 v2 M)) (v3 : Int32) (v2 : Int32) (M : Mm) : Sim cQi l layC G 4 cX7_warmDay RX7 4 (some .int) 66 [(3, .int v3), (2, .int v2), (0, rf G 0)] [] M (fX7_warmDay_L66b q66 v3 v2 M) := by
  unfold fX7_warmDay_L66b
  refine s_iload_n 0 dX7_warmDay_66 rfl rfl ?_
  refine s_aload_n 2 dX7_warmDay_67 rfl rfl ?_
  refine g_X7_73 rfl dX7_warmDay_68 ?_
  refine s_icmpge (tgt := 116) dX7_warmDay_71 (by decide) ?_ ?_
  · exact s_sub [1, 2] rfl (tX7_warmDay_B116 l G v2 M)
  · refine s_aload_n 2 dX7_warmDay_74 rfl rfl ?_
    refine g_X7_24 (q := 3) rfl rfl dX7_warmDay_75 ?_
    refine s_iload_n 0 dX7_warmDay_78 rfl rfl ?_
    refine s_gd fun h4 => ?_
    refine s_aald (t := 1) (bs := 4) (sd := 1) (n := 24) rfl rfl h4 dX7_warmDay_79 ?_
    refine s_gd fun h5 => ?_
    refine g_X7_124 h5 dX7_warmDay_80 ?_
    refine s_ifge (tgt := 110) dX7_warmDay_83 (by decide) ?_ ?_
    · exact s_sub [0, 1, 2] rfl (tX7_warmDay_B110 l G v3 v2 q66 hq66 M)
    · refine s_iload_n 1 dX7_warmDay_86 rfl rfl ?_
      refine s_aload_n 2 dX7_warmDay_87 rfl rfl ?_
      refine g_X7_24 (q := 3) rfl rfl dX7_warmDay_88 ?_
      refine s_iload_n 0 dX7_warmDay_91 rfl rfl ?_
      refine s_aald (t := 1) (bs := 4) (sd := 1) (n := 24) rfl rfl h4 dX7_warmDay_92 ?_
      refine s_aload_n 2 dX7_warmDay_93 rfl rfl ?_
      refine s_aload_n 2 dX7_warmDay_94 rfl rfl ?_
      refine g_X7_24 (q := 3) rfl rfl dX7_warmDay_95 ?_
      refine s_iload_n 0 dX7_warmDay_98 rfl rfl ?_
      refine s_aald (t := 1) (bs := 4) (sd := 1) (n := 24) rfl rfl h4 dX7_warmDay_99 ?_
      refine s_call_i (s_runV (ci := 7) (rest := [rf G (4 + 1 * ix v3), .int v2]) rfl rfl (mX7_meltsOf l G (4 + 1 * ix v3) M) ok_X7_meltsOf k_X7_130 rfl rfl rfl rfl dX7_warmDay_100) fun r6 M7 => ?_
      refine s_iconst (v := 2) dX7_warmDay_103 ci_2 ?_
      refine s_idiv dX7_warmDay_104 (by decide) ?_
      refine s_call_i (s_runV (ci := 3) (rest := [.int v2]) h5 rfl (mX3_takeIce l G (4 + 1 * ix v3) (r6 / (2 : Int32)) M7) ok_X3_takeIce k_X7_176 rfl rfl rfl rfl dX7_warmDay_105) fun r8 M9 => ?_
      refine s_iadd dX7_warmDay_108 ?_
      refine s_leti fun x10 => ?_
      refine s_istore_n (lv' := [(2, .int x10), (3, .int v3), (0, rf G 0)]) dX7_warmDay_109 rfl rfl rfl ?_
      exact s_sub [1, 0, 2] rfl (tX7_warmDay_B110 l G v3 x10 q66 hq66 M9)
theorem tX7_warmDay_L66 (l : Launch) (G : Gx) : ∀ (n : Nat) (v3 : Int32) (v2 : Int32) (M : Mm), Sim cQi l layC G 4 cX7_warmDay RX7 4 (some .int) 66 [(3, .int v3), (2, .int v2), (0, rf G 0)] [] M (fX7_warmDay_L66 n v3 v2 M)
  | 0, _, _, _ => s_none
  | n + 1, v3, v2, M => tX7_warmDay_L66b l G _ (tX7_warmDay_L66 l G n) v3 v2 M
def fX7_warmDay_B62 (M : Mm) : Option (Int32 × Mm) :=
  fX7_warmDay_L66 FU (0 : Int32) (0 : Int32) M
theorem tX7_warmDay_B62 (l : Launch) (G : Gx) (M : Mm) : Sim cQi l layC G 4 cX7_warmDay RX7 4 (some .int) 62 [(0, rf G 0)] [] M (fX7_warmDay_B62 M) := by
  unfold fX7_warmDay_B62
  refine s_iconst (v := 0) dX7_warmDay_62 ci_0 ?_
  refine s_istore_n (lv' := [(2, .int (0 : Int32)), (0, rf G 0)]) dX7_warmDay_63 rfl rfl rfl ?_
  refine s_iconst (v := 0) dX7_warmDay_64 ci_0 ?_
  refine s_istore_n (lv' := [(3, .int (0 : Int32)), (2, .int (0 : Int32)), (0, rf G 0)]) dX7_warmDay_65 rfl rfl rfl ?_
  exact s_sub [0, 1, 2] rfl (tX7_warmDay_L66 l G FU (0 : Int32) (0 : Int32) M)
def fX7_warmDay_L30b (v1 : Int32) (q30 : Int32 → Mm → Option (Int32 × Mm)) (v2 : Int32) (M : Mm) : Option (Int32 × Mm) :=
  if (4 : Int32) ≤ v2 then (fX7_warmDay_B62 M)
  else gd (inb v2 4) <|
  bd (fX9_hold ((M 1 (ix v2)) - v1) (-9 : Int32) (20 : Int32) M) fun r12 M13 =>
  lt (wr M13 1 (ix v2) r12) fun M14 =>
  q30 (v2 + 1) M14
def fX7_warmDay_L30 (v1 : Int32) : Nat → Int32 → Mm → Option (Int32 × Mm)
  | 0 => fun _ _ => none
  | n + 1 => fX7_warmDay_L30b v1 (fX7_warmDay_L30 v1 n)
theorem tX7_warmDay_L30b (l : Launch) (G : Gx) (v1 : Int32) (q30 : Int32 → Mm → Option (Int32 × Mm)) (hq30 : ∀ (v2 : Int32) (M : Mm), Sim cQi l layC G 4 cX7_warmDay RX7 4 (some .int) 30 [(2, .int v2), (1, .int v1), (0, rf G 0)] [] M (q30 v2 M)) (v2 : Int32) (M : Mm) : Sim cQi l layC G 4 cX7_warmDay RX7 4 (some .int) 30 [(2, .int v2), (1, .int v1), (0, rf G 0)] [] M (fX7_warmDay_L30b v1 q30 v2 M) := by
  unfold fX7_warmDay_L30b
  refine s_iload_n 0 dX7_warmDay_30 rfl rfl ?_
  refine s_iconst (v := 4) dX7_warmDay_31 ci_4 ?_
  refine s_icmpge (tgt := 62) dX7_warmDay_32 (by decide) ?_ ?_
  · exact s_sub [2] rfl (tX7_warmDay_B62 l G M)
  · refine s_aload_n 2 dX7_warmDay_35 rfl rfl ?_
    refine g_X7_9 (q := 1) rfl rfl dX7_warmDay_36 ?_
    refine s_iload_n 0 dX7_warmDay_39 rfl rfl ?_
    refine s_aload_n 2 dX7_warmDay_40 rfl rfl ?_
    refine g_X7_9 (q := 1) rfl rfl dX7_warmDay_41 ?_
    refine s_iload_n 0 dX7_warmDay_44 rfl rfl ?_
    refine s_gd fun h11 => ?_
    refine s_iald (n := 4) rfl h11 dX7_warmDay_45 ?_
    refine s_iload_n 1 dX7_warmDay_46 rfl rfl ?_
    refine s_isub dX7_warmDay_47 ?_
    refine s_bipush (v := -9) dX7_warmDay_48 cb_m9 ?_
    refine s_bipush (v := 20) dX7_warmDay_50 cb_20 ?_
    refine s_call_i (s_runSN (rest := [.int v2, rf G 1]) (mX9_hold l G ((M 1 (ix v2)) - v1) (-9 : Int32) (20 : Int32) M) ok_X9_hold k_X7_153 rfl rfl rfl rfl dX7_warmDay_52) fun r12 M13 => ?_
    refine s_iast (n := 4) rfl h11 dX7_warmDay_55 ?_
    refine s_letM fun M14 => ?_
    refine s_iinc (k := 0) (lv' := [(2, .int (v2 + 1)), (1, .int v1), (0, rf G 0)]) dX7_warmDay_56 rfl ci_1 rfl rfl ?_
    refine s_goto (tgt := 30) dX7_warmDay_59 (by decide) ?_
    exact s_sub [0, 1, 2] rfl (hq30 (v2 + 1) M14)
theorem tX7_warmDay_L30 (l : Launch) (G : Gx) (v1 : Int32) : ∀ (n : Nat) (v2 : Int32) (M : Mm), Sim cQi l layC G 4 cX7_warmDay RX7 4 (some .int) 30 [(2, .int v2), (1, .int v1), (0, rf G 0)] [] M (fX7_warmDay_L30 v1 n v2 M)
  | 0, _, _ => s_none
  | n + 1, v2, M => tX7_warmDay_L30b l G v1 _ (tX7_warmDay_L30 l G v1 n) v2 M
def fX7_warmDay  (M : Mm) : Option (Int32 × Mm) :=
  lt (wr M 0 4 (((M 0 4) * (1103515245 : Int32)) + (12345 : Int32))) fun M1 =>
  lt (((((M1 0 4).toUInt32 >>> ((8 : Int32).toUInt32 &&& Int32.toUInt32 31)).toInt32) - (((M1 0 4).toUInt32 >>> ((8 : Int32).toUInt32 &&& Int32.toUInt32 31)).toInt32) / (7 : Int32) * (7 : Int32)) - (3 : Int32)) fun x2 =>
  fX7_warmDay_L30 x2 FU (0 : Int32) M1
theorem mX7_warmDay (l : Launch) (G : Gx)  (M : Mm) : Mt cQi l layC G 4 yX7_warmDay cX7_warmDay 4 (some .int) [rf G 0] M (fX7_warmDay M) := by
  refine Mt.of2 (own := RX7) (lv := [(0, rf G 0)]) rfl (by decide +kernel) rfl rfl ?_
  unfold fX7_warmDay
  refine s_aload_n 0 dX7_warmDay_0 rfl rfl ?_
  refine s_aload_n 0 dX7_warmDay_1 rfl rfl ?_
  refine g_X7_19 rfl dX7_warmDay_2 ?_
  refine s_ldc (v := 1103515245) dX7_warmDay_5 q_851 ?_
  refine s_imul dX7_warmDay_7 ?_
  refine s_sipush (v := 12345) dX7_warmDay_8 cs_12345 ?_
  refine s_iadd dX7_warmDay_11 ?_
  refine p_X7_19 rfl dX7_warmDay_12 ?_
  refine s_letM fun M1 => ?_
  refine s_aload_n 0 dX7_warmDay_15 rfl rfl ?_
  refine g_X7_19 rfl dX7_warmDay_16 ?_
  refine s_bipush (v := 8) dX7_warmDay_19 cb_8 ?_
  refine s_iushr dX7_warmDay_21 ?_
  refine s_bipush (v := 7) dX7_warmDay_22 cb_7 ?_
  refine s_irem dX7_warmDay_24 (by decide) ?_
  refine s_iconst (v := 3) dX7_warmDay_25 ci_3 ?_
  refine s_isub dX7_warmDay_26 ?_
  refine s_leti fun x2 => ?_
  refine s_istore_n (lv' := [(1, .int x2), (0, rf G 0)]) dX7_warmDay_27 rfl rfl rfl ?_
  refine s_iconst (v := 0) dX7_warmDay_28 ci_0 ?_
  refine s_istore_n (lv' := [(2, .int (0 : Int32)), (1, .int x2), (0, rf G 0)]) dX7_warmDay_29 rfl rfl rfl ?_
  exact s_sub [0, 1, 2] rfl (tX7_warmDay_L30 l G x2 FU (0 : Int32) M1)
theorem dX7_checkWaiting_0 : decode cX7_checkWaiting 0 = .ok (.aload_n 0, 1) := by decide +kernel
theorem dX7_checkWaiting_1 : decode cX7_checkWaiting 1 = .ok (.getfield 30, 3) := by decide +kernel
theorem dX7_checkWaiting_4 : decode cX7_checkWaiting 4 = .ok (.iload_n 1, 1) := by decide +kernel
theorem dX7_checkWaiting_5 : decode cX7_checkWaiting 5 = .ok (.aaload, 1) := by decide +kernel
theorem dX7_checkWaiting_6 : decode cX7_checkWaiting 6 = .ok (.getfield 166, 3) := by decide +kernel
theorem dX7_checkWaiting_9 : decode cX7_checkWaiting 9 = .ok (.istore_n 2, 1) := by decide +kernel
theorem dX7_checkWaiting_10 : decode cX7_checkWaiting 10 = .ok (.iconst 0, 1) := by decide +kernel
theorem dX7_checkWaiting_11 : decode cX7_checkWaiting 11 = .ok (.istore_n 3, 1) := by decide +kernel
theorem dX7_checkWaiting_12 : decode cX7_checkWaiting 12 = .ok (.iload_n 3, 1) := by decide +kernel
theorem dX7_checkWaiting_13 : decode cX7_checkWaiting 13 = .ok (.iload_n 2, 1) := by decide +kernel
theorem dX7_checkWaiting_14 : decode cX7_checkWaiting 14 = .ok (.if_icmp .ge 47, 3) := by decide +kernel
theorem dX7_checkWaiting_17 : decode cX7_checkWaiting 17 = .ok (.iload_n 3, 1) := by decide +kernel
theorem dX7_checkWaiting_18 : decode cX7_checkWaiting 18 = .ok (.aload_n 0, 1) := by decide +kernel
theorem dX7_checkWaiting_19 : decode cX7_checkWaiting 19 = .ok (.getfield 57, 3) := by decide +kernel
theorem dX7_checkWaiting_22 : decode cX7_checkWaiting 22 = .ok (.getfield 166, 3) := by decide +kernel
theorem dX7_checkWaiting_25 : decode cX7_checkWaiting 25 = .ok (.if_icmp .ge 36, 3) := by decide +kernel
theorem dX7_checkWaiting_28 : decode cX7_checkWaiting 28 = .ok (.aload_n 0, 1) := by decide +kernel
theorem dX7_checkWaiting_29 : decode cX7_checkWaiting 29 = .ok (.getfield 57, 3) := by decide +kernel
theorem dX7_checkWaiting_32 : decode cX7_checkWaiting 32 = .ok (.iload_n 3, 1) := by decide +kernel
theorem dX7_checkWaiting_33 : decode cX7_checkWaiting 33 = .ok (.invokevirtual 162, 3) := by decide +kernel
theorem dX7_checkWaiting_36 : decode cX7_checkWaiting 36 = .ok (.aload_n 0, 1) := by decide +kernel
theorem dX7_checkWaiting_37 : decode cX7_checkWaiting 37 = .ok (.aload_n 0, 1) := by decide +kernel
theorem dX7_checkWaiting_38 : decode cX7_checkWaiting 38 = .ok (.iload_n 1, 1) := by decide +kernel
theorem dX7_checkWaiting_39 : decode cX7_checkWaiting 39 = .ok (.iload_n 3, 1) := by decide +kernel
theorem dX7_checkWaiting_40 : decode cX7_checkWaiting 40 = .ok (.invokevirtual 169, 3) := by decide +kernel
theorem dX7_checkWaiting_43 : decode cX7_checkWaiting 43 = .ok (.aload_n 0, 1) := by decide +kernel
theorem dX7_checkWaiting_44 : decode cX7_checkWaiting 44 = .ok (.getfield 34, 3) := by decide +kernel
theorem dX7_checkWaiting_47 : decode cX7_checkWaiting 47 = .ok (.iload_n 1, 1) := by decide +kernel
theorem dX7_checkWaiting_48 : decode cX7_checkWaiting 48 = .ok (.iaload, 1) := by decide +kernel
theorem dX7_checkWaiting_49 : decode cX7_checkWaiting 49 = .ok (.invokevirtual 138, 3) := by decide +kernel
theorem dX7_checkWaiting_52 : decode cX7_checkWaiting 52 = .ok (.if_icmp .ne 9, 3) := by decide +kernel
theorem dX7_checkWaiting_55 : decode cX7_checkWaiting 55 = .ok (.iinc 3 1, 3) := by decide +kernel
theorem dX7_checkWaiting_58 : decode cX7_checkWaiting 58 = .ok (.goto (-46), 3) := by decide +kernel
theorem dX7_checkWaiting_61 : decode cX7_checkWaiting 61 = .ok (.iload_n 3, 1) := by decide +kernel
theorem dX7_checkWaiting_62 : decode cX7_checkWaiting 62 = .ok (.iload_n 2, 1) := by decide +kernel
theorem dX7_checkWaiting_63 : decode cX7_checkWaiting 63 = .ok (.if_icmp .ne 18, 3) := by decide +kernel
theorem dX7_checkWaiting_66 : decode cX7_checkWaiting 66 = .ok (.iload_n 3, 1) := by decide +kernel
theorem dX7_checkWaiting_67 : decode cX7_checkWaiting 67 = .ok (.aload_n 0, 1) := by decide +kernel
theorem dX7_checkWaiting_68 : decode cX7_checkWaiting 68 = .ok (.getfield 57, 3) := by decide +kernel
theorem dX7_checkWaiting_71 : decode cX7_checkWaiting 71 = .ok (.getfield 166, 3) := by decide +kernel
theorem dX7_checkWaiting_74 : decode cX7_checkWaiting 74 = .ok (.if_icmp .ne 7, 3) := by decide +kernel
theorem dX7_checkWaiting_77 : decode cX7_checkWaiting 77 = .ok (.iconst 0, 1) := by decide +kernel
theorem dX7_checkWaiting_78 : decode cX7_checkWaiting 78 = .ok (.goto 6, 3) := by decide +kernel
theorem dX7_checkWaiting_81 : decode cX7_checkWaiting 81 = .ok (.iconst 1, 1) := by decide +kernel
theorem dX7_checkWaiting_82 : decode cX7_checkWaiting 82 = .ok (.iload_n 3, 1) := by decide +kernel
theorem dX7_checkWaiting_83 : decode cX7_checkWaiting 83 = .ok (.iadd, 1) := by decide +kernel
theorem dX7_checkWaiting_84 : decode cX7_checkWaiting 84 = .ok (.ireturn, 1) := by decide +kernel
def fX7_checkWaiting_B84 (w0 : Int32) (M : Mm) : Option (Int32 × Mm) :=
  some (w0, M)
theorem tX7_checkWaiting_B84 (l : Launch) (G : Gx) (w0 : Int32) (M : Mm) : Sim cQi l layC G 4 cX7_checkWaiting RX7 4 (some .int) 84 [] [.int w0] M (fX7_checkWaiting_B84 w0 M) := by
  unfold fX7_checkWaiting_B84
  exact s_iret rfl dX7_checkWaiting_84
def fX7_checkWaiting_B81 (v3 : Int32) (M : Mm) : Option (Int32 × Mm) :=
  fX7_checkWaiting_B84 ((1 : Int32) + v3) M
theorem tX7_checkWaiting_B81 (l : Launch) (G : Gx) (v3 : Int32) (M : Mm) : Sim cQi l layC G 4 cX7_checkWaiting RX7 4 (some .int) 81 [(3, .int v3)] [] M (fX7_checkWaiting_B81 v3 M) := by
  unfold fX7_checkWaiting_B81
  refine s_iconst (v := 1) dX7_checkWaiting_81 ci_1 ?_
  refine s_iload_n 0 dX7_checkWaiting_82 rfl rfl ?_
  refine s_iadd dX7_checkWaiting_83 ?_
  exact s_sub [] rfl (tX7_checkWaiting_B84 l G ((1 : Int32) + v3) M)
def fX7_checkWaiting_B61 (v3 : Int32) (v2 : Int32) (M : Mm) : Option (Int32 × Mm) :=
  if v3 = v2 then (if v3 = (M 66 1) then (fX7_checkWaiting_B84 (0 : Int32) M)
  else fX7_checkWaiting_B81 v3 M)
  else fX7_checkWaiting_B81 v3 M
theorem tX7_checkWaiting_B61 (l : Launch) (G : Gx) (v3 : Int32) (v2 : Int32) (M : Mm) : Sim cQi l layC G 4 cX7_checkWaiting RX7 4 (some .int) 61 [(3, .int v3), (2, .int v2), (0, rf G 0)] [] M (fX7_checkWaiting_B61 v3 v2 M) := by
  unfold fX7_checkWaiting_B61
  refine s_iload_n 0 dX7_checkWaiting_61 rfl rfl ?_
  refine s_iload_n 1 dX7_checkWaiting_62 rfl rfl ?_
  refine s_icmpne (tgt := 81) dX7_checkWaiting_63 (by decide) ?_ ?_
  · exact s_sub [0] rfl (tX7_checkWaiting_B81 l G v3 M)
  · refine s_iload_n 0 dX7_checkWaiting_66 rfl rfl ?_
    refine s_aload_n 2 dX7_checkWaiting_67 rfl rfl ?_
    refine g_X7_57 (q := 66) rfl rfl dX7_checkWaiting_68 ?_
    refine g_X7_166 rfl dX7_checkWaiting_71 ?_
    refine s_icmpne (tgt := 81) dX7_checkWaiting_74 (by decide) ?_ ?_
    · exact s_sub [0] rfl (tX7_checkWaiting_B81 l G v3 M)
    · refine s_iconst (v := 0) dX7_checkWaiting_77 ci_0 ?_
      refine s_goto (tgt := 84) dX7_checkWaiting_78 (by decide) ?_
      exact s_sub [] rfl (tX7_checkWaiting_B84 l G (0 : Int32) M)
def fX7_checkWaiting_L12b (v2 : Int32) (v1 : Int32) (q12 : Int32 → Mm → Option (Int32 × Mm)) (v3 : Int32) (M : Mm) : Option (Int32 × Mm) :=
  if v2 ≤ v3 then (fX7_checkWaiting_B61 v3 v2 M)
  else if (M 66 1) ≤ v3 then (fX7_checkWaiting_B61 v3 v2 M)
  else bd (fX5_at 66 v3 M) fun r4 M5 =>
  bd (fX7_letterIn v1 v3 M5) fun r6 M7 =>
  gd (inb v1 4) <|
  bd (fX7_seesOf r6 (M7 2 (ix v1)) M7) fun r9 M10 =>
  if r4 = r9 then (q12 (v3 + 1) M10)
  else fX7_checkWaiting_B61 v3 v2 M10
def fX7_checkWaiting_L12 (v2 : Int32) (v1 : Int32) : Nat → Int32 → Mm → Option (Int32 × Mm)
  | 0 => fun _ _ => none
  | n + 1 => fX7_checkWaiting_L12b v2 v1 (fX7_checkWaiting_L12 v2 v1 n)
theorem tX7_checkWaiting_L12b (l : Launch) (G : Gx) (v2 : Int32) (v1 : Int32) (q12 : Int32 → Mm → Option (Int32 × Mm)) (hq12 : ∀ (v3 : Int32) (M : Mm), Sim cQi l layC G 4 cX7_checkWaiting RX7 4 (some .int) 12 [(3, .int v3), (2, .int v2), (0, rf G 0), (1, .int v1)] [] M (q12 v3 M)) (v3 : Int32) (M : Mm) : Sim cQi l layC G 4 cX7_checkWaiting RX7 4 (some .int) 12 [(3, .int v3), (2, .int v2), (0, rf G 0), (1, .int v1)] [] M (fX7_checkWaiting_L12b v2 v1 q12 v3 M) := by
  unfold fX7_checkWaiting_L12b
  refine s_iload_n 0 dX7_checkWaiting_12 rfl rfl ?_
  refine s_iload_n 1 dX7_checkWaiting_13 rfl rfl ?_
  refine s_icmpge (tgt := 61) dX7_checkWaiting_14 (by decide) ?_ ?_
  · exact s_sub [0, 1, 2] rfl (tX7_checkWaiting_B61 l G v3 v2 M)
  · refine s_iload_n 0 dX7_checkWaiting_17 rfl rfl ?_
    refine s_aload_n 2 dX7_checkWaiting_18 rfl rfl ?_
    refine g_X7_57 (q := 66) rfl rfl dX7_checkWaiting_19 ?_
    refine g_X7_166 rfl dX7_checkWaiting_22 ?_
    refine s_icmpge (tgt := 61) dX7_checkWaiting_25 (by decide) ?_ ?_
    · exact s_sub [0, 1, 2] rfl (tX7_checkWaiting_B61 l G v3 v2 M)
    · refine s_aload_n 2 dX7_checkWaiting_28 rfl rfl ?_
      refine g_X7_57 (q := 66) rfl rfl dX7_checkWaiting_29 ?_
      refine s_iload_n 0 dX7_checkWaiting_32 rfl rfl ?_
      refine s_call_i (s_runV (ci := 5) (rest := []) rfl rfl (mX5_at l G 66 v3 M) ok_X5_at k_X7_162 rfl rfl rfl rfl dX7_checkWaiting_33) fun r4 M5 => ?_
      refine s_aload_n 2 dX7_checkWaiting_36 rfl rfl ?_
      refine s_aload_n 2 dX7_checkWaiting_37 rfl rfl ?_
      refine s_iload_n 3 dX7_checkWaiting_38 rfl rfl ?_
      refine s_iload_n 0 dX7_checkWaiting_39 rfl rfl ?_
      refine s_call_r (s_runV (ci := 7) (rest := [rf G 0, .int r4]) rfl rfl (mX7_letterIn l G v1 v3 M5) ok_X7_letterIn k_X7_169 rfl rfl rfl rfl dX7_checkWaiting_40) fun r6 M7 => ?_
      refine s_aload_n 2 dX7_checkWaiting_43 rfl rfl ?_
      refine g_X7_34 (q := 2) rfl rfl dX7_checkWaiting_44 ?_
      refine s_iload_n 3 dX7_checkWaiting_47 rfl rfl ?_
      refine s_gd fun h8 => ?_
      refine s_iald (n := 4) rfl h8 dX7_checkWaiting_48 ?_
      refine s_call_i (s_runV (ci := 7) (rest := [.int r4]) rfl rfl (mX7_seesOf l G r6 (M7 2 (ix v1)) M7) ok_X7_seesOf k_X7_138 rfl rfl rfl rfl dX7_checkWaiting_49) fun r9 M10 => ?_
      refine s_icmpne (tgt := 61) dX7_checkWaiting_52 (by decide) ?_ ?_
      · exact s_sub [0, 1, 2] rfl (tX7_checkWaiting_B61 l G v3 v2 M10)
      · refine s_iinc (k := 0) (lv' := [(3, .int (v3 + 1)), (2, .int v2), (0, rf G 0), (1, .int v1)]) dX7_checkWaiting_55 rfl ci_1 rfl rfl ?_
        refine s_goto (tgt := 12) dX7_checkWaiting_58 (by decide) ?_
        exact s_sub [0, 1, 2, 3] rfl (hq12 (v3 + 1) M10)
theorem tX7_checkWaiting_L12 (l : Launch) (G : Gx) (v2 : Int32) (v1 : Int32) : ∀ (n : Nat) (v3 : Int32) (M : Mm), Sim cQi l layC G 4 cX7_checkWaiting RX7 4 (some .int) 12 [(3, .int v3), (2, .int v2), (0, rf G 0), (1, .int v1)] [] M (fX7_checkWaiting_L12 v2 v1 n v3 M)
  | 0, _, _ => s_none
  | n + 1, v3, M => tX7_checkWaiting_L12b l G v2 v1 _ (tX7_checkWaiting_L12 l G v2 v1 n) v3 M
def fX7_checkWaiting (a1 : Int32) (M : Mm) : Option (Int32 × Mm) :=
  gd (inb a1 4) <|
  gd (isC layC (29 + 2 * ix a1) 5) <|
  lt (M (29 + 2 * ix a1) 1) fun x3 =>
  fX7_checkWaiting_L12 x3 a1 FU (0 : Int32) M
theorem mX7_checkWaiting (l : Launch) (G : Gx) (a1 : Int32) (M : Mm) : Mt cQi l layC G 4 yX7_checkWaiting cX7_checkWaiting 4 (some .int) [rf G 0, .int a1] M (fX7_checkWaiting a1 M) := by
  refine Mt.of2 (own := RX7) (lv := [(0, rf G 0), (1, .int a1)]) rfl (by decide +kernel) rfl rfl ?_
  unfold fX7_checkWaiting
  refine s_aload_n 0 dX7_checkWaiting_0 rfl rfl ?_
  refine g_X7_30 (q := 28) rfl rfl dX7_checkWaiting_1 ?_
  refine s_iload_n 1 dX7_checkWaiting_4 rfl rfl ?_
  refine s_gd fun h1 => ?_
  refine s_aald (t := 2) (bs := 29) (sd := 2) (n := 4) rfl rfl h1 dX7_checkWaiting_5 ?_
  refine s_gd fun h2 => ?_
  refine g_X7_166 h2 dX7_checkWaiting_6 ?_
  refine s_leti fun x3 => ?_
  refine s_istore_n (lv' := [(2, .int x3), (0, rf G 0), (1, .int a1)]) dX7_checkWaiting_9 rfl rfl rfl ?_
  refine s_iconst (v := 0) dX7_checkWaiting_10 ci_0 ?_
  refine s_istore_n (lv' := [(3, .int (0 : Int32)), (2, .int x3), (0, rf G 0), (1, .int a1)]) dX7_checkWaiting_11 rfl rfl rfl ?_
  exact s_sub [0, 1, 2, 3] rfl (tX7_checkWaiting_L12 l G x3 a1 FU (0 : Int32) M)
