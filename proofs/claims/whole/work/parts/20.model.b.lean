theorem dX10_hasText_0 : decode cX10_hasText 0 = .ok (.aload_n 0, 1) := by decide +kernel
theorem dX10_hasText_1 : decode cX10_hasText 1 = .ok (.getfield 7, 3) := by decide +kernel
theorem dX10_hasText_4 : decode cX10_hasText 4 = .ok (.sipush 292, 3) := by decide +kernel
theorem dX10_hasText_7 : decode cX10_hasText 7 = .ok (.bipush 125, 2) := by decide +kernel
theorem dX10_hasText_9 : decode cX10_hasText 9 = .ok (.iload_n 1, 1) := by decide +kernel
theorem dX10_hasText_10 : decode cX10_hasText 10 = .ok (.imul, 1) := by decide +kernel
theorem dX10_hasText_11 : decode cX10_hasText 11 = .ok (.iadd, 1) := by decide +kernel
theorem dX10_hasText_12 : decode cX10_hasText 12 = .ok (.iaload, 1) := by decide +kernel
theorem dX10_hasText_13 : decode cX10_hasText 13 = .ok (.ifCond .le 7, 3) := by decide +kernel
theorem dX10_hasText_16 : decode cX10_hasText 16 = .ok (.iconst 1, 1) := by decide +kernel
theorem dX10_hasText_17 : decode cX10_hasText 17 = .ok (.goto 4, 3) := by decide +kernel
theorem dX10_hasText_20 : decode cX10_hasText 20 = .ok (.iconst 0, 1) := by decide +kernel
theorem dX10_hasText_21 : decode cX10_hasText 21 = .ok (.ireturn, 1) := by decide +kernel
def fX10_hasText_B21 (w0 : Int32) (M : Mm) : Option (Bool × Mm) :=
  gd (isb w0) (some (decide (w0 = 1), M))
theorem tX10_hasText_B21 (l : Launch) (G : Gx) (w0 : Int32) (M : Mm) : Sim cQz l layM G 1 cX10_hasText RX10 2 (some .boolean) 21 [] [.int w0] M (fX10_hasText_B21 w0 M) := by
  unfold fX10_hasText_B21
  exact s_zretI rfl dX10_hasText_21
def fX10_hasText (a1 : Int32) (M : Mm) : Option (Bool × Mm) :=
  gd (inb ((292 : Int32) + ((125 : Int32) * a1)) 626) <|
  if (M 1 (ix ((292 : Int32) + ((125 : Int32) * a1)))) ≤ 0 then (fX10_hasText_B21 (0 : Int32) M)
  else fX10_hasText_B21 (1 : Int32) M
theorem mX10_hasText (l : Launch) (G : Gx) (a1 : Int32) (M : Mm) : Mt cQz l layM G 1 yX10_hasText cX10_hasText 2 (some .boolean) [rf G 0, .int a1] M (fX10_hasText a1 M) := by
  refine Mt.of2 (own := RX10) (lv := [(0, rf G 0), (1, .int a1)]) rfl (by decide +kernel) rfl rfl ?_
  unfold fX10_hasText
  refine s_aload_n 0 dX10_hasText_0 rfl rfl ?_
  refine g_X10_7 (q := 1) rfl rfl dX10_hasText_1 ?_
  refine s_sipush (v := 292) dX10_hasText_4 cs_292 ?_
  refine s_bipush (v := 125) dX10_hasText_7 cb_125 ?_
  refine s_iload_n 1 dX10_hasText_9 rfl rfl ?_
  refine s_imul dX10_hasText_10 ?_
  refine s_iadd dX10_hasText_11 ?_
  refine s_gd fun h1 => ?_
  refine s_iald (n := 626) rfl h1 dX10_hasText_12 ?_
  refine s_ifle (tgt := 20) dX10_hasText_13 (by decide) ?_ ?_
  · refine s_iconst (v := 0) dX10_hasText_20 ci_0 ?_
    exact s_sub [] rfl (tX10_hasText_B21 l G (0 : Int32) M)
  · refine s_iconst (v := 1) dX10_hasText_16 ci_1 ?_
    refine s_goto (tgt := 21) dX10_hasText_17 (by decide) ?_
    exact s_sub [] rfl (tX10_hasText_B21 l G (1 : Int32) M)
theorem dX10_text_0 : decode cX10_text 0 = .ok (.iload_n 1, 1) := by decide +kernel
theorem dX10_text_1 : decode cX10_text 1 = .ok (.iconst 0, 1) := by decide +kernel
theorem dX10_text_2 : decode cX10_text 2 = .ok (.iconst 1, 1) := by decide +kernel
theorem dX10_text_3 : decode cX10_text 3 = .ok (.invokestatic 59, 3) := by decide +kernel
theorem dX10_text_6 : decode cX10_text 6 = .ok (.ifCond .ne 9, 3) := by decide +kernel
theorem dX10_text_9 : decode cX10_text 9 = .ok (.aload_n 0, 1) := by decide +kernel
theorem dX10_text_10 : decode cX10_text 10 = .ok (.iconst 1, 1) := by decide +kernel
theorem dX10_text_11 : decode cX10_text 11 = .ok (.invokevirtual 75, 3) := by decide +kernel
theorem dX10_text_14 : decode cX10_text 14 = .ok (.ireturn, 1) := by decide +kernel
theorem dX10_text_15 : decode cX10_text 15 = .ok (.aload_n 0, 1) := by decide +kernel
theorem dX10_text_16 : decode cX10_text 16 = .ok (.iload_n 1, 1) := by decide +kernel
theorem dX10_text_17 : decode cX10_text 17 = .ok (.putfield 88, 3) := by decide +kernel
theorem dX10_text_20 : decode cX10_text 20 = .ok (.aload_n 0, 1) := by decide +kernel
theorem dX10_text_21 : decode cX10_text 21 = .ok (.iconst 0, 1) := by decide +kernel
theorem dX10_text_22 : decode cX10_text 22 = .ok (.putfield 84, 3) := by decide +kernel
theorem dX10_text_25 : decode cX10_text 25 = .ok (.aload_n 0, 1) := by decide +kernel
theorem dX10_text_26 : decode cX10_text 26 = .ok (.iconst 0, 1) := by decide +kernel
theorem dX10_text_27 : decode cX10_text 27 = .ok (.putfield 118, 3) := by decide +kernel
theorem dX10_text_30 : decode cX10_text 30 = .ok (.aload_n 0, 1) := by decide +kernel
theorem dX10_text_31 : decode cX10_text 31 = .ok (.iconst 0, 1) := by decide +kernel
theorem dX10_text_32 : decode cX10_text 32 = .ok (.putfield 91, 3) := by decide +kernel
theorem dX10_text_35 : decode cX10_text 35 = .ok (.aload_n 0, 1) := by decide +kernel
theorem dX10_text_36 : decode cX10_text 36 = .ok (.invokevirtual 128, 3) := by decide +kernel
theorem dX10_text_39 : decode cX10_text 39 = .ok (.ifCond .eq 20, 3) := by decide +kernel
theorem dX10_text_42 : decode cX10_text 42 = .ok (.aload_n 0, 1) := by decide +kernel
theorem dX10_text_43 : decode cX10_text 43 = .ok (.getfield 84, 3) := by decide +kernel
theorem dX10_text_46 : decode cX10_text 46 = .ok (.aload_n 0, 1) := by decide +kernel
theorem dX10_text_47 : decode cX10_text 47 = .ok (.getfield 7, 3) := by decide +kernel
theorem dX10_text_50 : decode cX10_text 50 = .ok (.iconst 5, 1) := by decide +kernel
theorem dX10_text_51 : decode cX10_text 51 = .ok (.iaload, 1) := by decide +kernel
theorem dX10_text_52 : decode cX10_text 52 = .ok (.if_icmp .ne 7, 3) := by decide +kernel
theorem dX10_text_55 : decode cX10_text 55 = .ok (.iconst 1, 1) := by decide +kernel
theorem dX10_text_56 : decode cX10_text 56 = .ok (.goto 4, 3) := by decide +kernel
theorem dX10_text_59 : decode cX10_text 59 = .ok (.iconst 0, 1) := by decide +kernel
theorem dX10_text_60 : decode cX10_text 60 = .ok (.istore_n 2, 1) := by decide +kernel
theorem dX10_text_61 : decode cX10_text 61 = .ok (.aload_n 0, 1) := by decide +kernel
theorem dX10_text_62 : decode cX10_text 62 = .ok (.getfield 7, 3) := by decide +kernel
theorem dX10_text_65 : decode cX10_text 65 = .ok (.iconst 5, 1) := by decide +kernel
theorem dX10_text_66 : decode cX10_text 66 = .ok (.iconst 0, 1) := by decide +kernel
theorem dX10_text_67 : decode cX10_text 67 = .ok (.iastore, 1) := by decide +kernel
theorem dX10_text_68 : decode cX10_text 68 = .ok (.iload_n 2, 1) := by decide +kernel
theorem dX10_text_69 : decode cX10_text 69 = .ok (.ifCond .ne 11, 3) := by decide +kernel
theorem dX10_text_72 : decode cX10_text 72 = .ok (.bipush (-10), 2) := by decide +kernel
theorem dX10_text_74 : decode cX10_text 74 = .ok (.aload_n 0, 1) := by decide +kernel
theorem dX10_text_75 : decode cX10_text 75 = .ok (.getfield 84, 3) := by decide +kernel
theorem dX10_text_78 : decode cX10_text 78 = .ok (.isub, 1) := by decide +kernel
theorem dX10_text_79 : decode cX10_text 79 = .ok (.ireturn, 1) := by decide +kernel
theorem dX10_text_80 : decode cX10_text 80 = .ok (.sipush 292, 3) := by decide +kernel
theorem dX10_text_83 : decode cX10_text 83 = .ok (.bipush 125, 2) := by decide +kernel
theorem dX10_text_85 : decode cX10_text 85 = .ok (.iload_n 1, 1) := by decide +kernel
theorem dX10_text_86 : decode cX10_text 86 = .ok (.imul, 1) := by decide +kernel
theorem dX10_text_87 : decode cX10_text 87 = .ok (.iadd, 1) := by decide +kernel
theorem dX10_text_88 : decode cX10_text 88 = .ok (.istore_n 3, 1) := by decide +kernel
theorem dX10_text_89 : decode cX10_text 89 = .ok (.aload_n 0, 1) := by decide +kernel
theorem dX10_text_90 : decode cX10_text 90 = .ok (.getfield 7, 3) := by decide +kernel
theorem dX10_text_93 : decode cX10_text 93 = .ok (.iload_n 3, 1) := by decide +kernel
theorem dX10_text_94 : decode cX10_text 94 = .ok (.aload_n 0, 1) := by decide +kernel
theorem dX10_text_95 : decode cX10_text 95 = .ok (.getfield 91, 3) := by decide +kernel
theorem dX10_text_98 : decode cX10_text 98 = .ok (.iastore, 1) := by decide +kernel
theorem dX10_text_99 : decode cX10_text 99 = .ok (.iconst 0, 1) := by decide +kernel
theorem dX10_text_100 : decode cX10_text 100 = .ok (.istore 4, 2) := by decide +kernel
theorem dX10_text_102 : decode cX10_text 102 = .ok (.iload 4, 2) := by decide +kernel
theorem dX10_text_104 : decode cX10_text 104 = .ok (.iconst 2, 1) := by decide +kernel
theorem dX10_text_105 : decode cX10_text 105 = .ok (.aload_n 0, 1) := by decide +kernel
theorem dX10_text_106 : decode cX10_text 106 = .ok (.getfield 91, 3) := by decide +kernel
theorem dX10_text_109 : decode cX10_text 109 = .ok (.imul, 1) := by decide +kernel
theorem dX10_text_110 : decode cX10_text 110 = .ok (.if_icmp .ge 27, 3) := by decide +kernel
theorem dX10_text_113 : decode cX10_text 113 = .ok (.aload_n 0, 1) := by decide +kernel
theorem dX10_text_114 : decode cX10_text 114 = .ok (.getfield 7, 3) := by decide +kernel
theorem dX10_text_117 : decode cX10_text 117 = .ok (.iload_n 3, 1) := by decide +kernel
theorem dX10_text_118 : decode cX10_text 118 = .ok (.iconst 1, 1) := by decide +kernel
theorem dX10_text_119 : decode cX10_text 119 = .ok (.iadd, 1) := by decide +kernel
theorem dX10_text_120 : decode cX10_text 120 = .ok (.iload 4, 2) := by decide +kernel
theorem dX10_text_122 : decode cX10_text 122 = .ok (.iadd, 1) := by decide +kernel
theorem dX10_text_123 : decode cX10_text 123 = .ok (.aload_n 0, 1) := by decide +kernel
theorem dX10_text_124 : decode cX10_text 124 = .ok (.getfield 22, 3) := by decide +kernel
theorem dX10_text_127 : decode cX10_text 127 = .ok (.iload 4, 2) := by decide +kernel
theorem dX10_text_129 : decode cX10_text 129 = .ok (.iaload, 1) := by decide +kernel
theorem dX10_text_130 : decode cX10_text 130 = .ok (.iastore, 1) := by decide +kernel
theorem dX10_text_131 : decode cX10_text 131 = .ok (.iinc 4 1, 3) := by decide +kernel
theorem dX10_text_134 : decode cX10_text 134 = .ok (.goto (-32), 3) := by decide +kernel
theorem dX10_text_137 : decode cX10_text 137 = .ok (.iconst 1, 1) := by decide +kernel
theorem dX10_text_138 : decode cX10_text 138 = .ok (.ireturn, 1) := by decide +kernel
def fX10_text_B137 (M : Mm) : Option (Int32 × Mm) :=
  some ((1 : Int32), M)
theorem tX10_text_B137 (l : Launch) (G : Gx) (M : Mm) : Sim cQi l layM G 83 cX10_text RX10 5 (some .int) 137 [] [] M (fX10_text_B137 M) := by
  unfold fX10_text_B137
  refine s_iconst (v := 1) dX10_text_137 ci_1 ?_
  exact s_iret rfl dX10_text_138
def fX10_text_L102b (v3 : Int32) (q102 : Int32 → Mm → Option (Int32 × Mm)) (v4 : Int32) (M : Mm) : Option (Int32 × Mm) :=
  if ((2 : Int32) * (M 0 7)) ≤ v4 then (fX10_text_B137 M)
  else gd (inb v4 124) <|
  gd (inb ((v3 + (1 : Int32)) + v4) 626) <|
  lt (wr M 1 (ix ((v3 + (1 : Int32)) + v4)) (M 5 (ix v4))) fun M17 =>
  q102 (v4 + 1) M17
def fX10_text_L102 (v3 : Int32) : Nat → Int32 → Mm → Option (Int32 × Mm)
  | 0 => fun _ _ => none
  | n + 1 => fX10_text_L102b v3 (fX10_text_L102 v3 n)
theorem tX10_text_L102b (l : Launch) (G : Gx) (v3 : Int32) (q102 : Int32 → Mm → Option (Int32 × Mm)) (hq102 : ∀ (v4 : Int32) (M : Mm), Sim cQi l layM G 83 cX10_text RX10 5 (some .int) 102 [(4, .int v4), (3, .int v3), (0, rf G 0)] [] M (q102 v4 M)) (v4 : Int32) (M : Mm) : Sim cQi l layM G 83 cX10_text RX10 5 (some .int) 102 [(4, .int v4), (3, .int v3), (0, rf G 0)] [] M (fX10_text_L102b v3 q102 v4 M) := by
  unfold fX10_text_L102b
  refine s_iload 0 dX10_text_102 rfl ?_
  refine s_iconst (v := 2) dX10_text_104 ci_2 ?_
  refine s_aload_n 2 dX10_text_105 rfl rfl ?_
  refine g_X10_91 rfl dX10_text_106 ?_
  refine s_imul dX10_text_109 ?_
  refine s_icmpge (tgt := 137) dX10_text_110 (by decide) ?_ ?_
  · exact s_sub [] rfl (tX10_text_B137 l G M)
  · refine s_aload_n 2 dX10_text_113 rfl rfl ?_
    refine g_X10_7 (q := 1) rfl rfl dX10_text_114 ?_
    refine s_iload_n 1 dX10_text_117 rfl rfl ?_
    refine s_iconst (v := 1) dX10_text_118 ci_1 ?_
    refine s_iadd dX10_text_119 ?_
    refine s_iload 0 dX10_text_120 rfl ?_
    refine s_iadd dX10_text_122 ?_
    refine s_aload_n 2 dX10_text_123 rfl rfl ?_
    refine g_X10_22 (q := 5) rfl rfl dX10_text_124 ?_
    refine s_iload 0 dX10_text_127 rfl ?_
    refine s_gd fun h15 => ?_
    refine s_iald (n := 124) rfl h15 dX10_text_129 ?_
    refine s_gd fun h16 => ?_
    refine s_iast (n := 626) rfl h16 dX10_text_130 ?_
    refine s_letM fun M17 => ?_
    refine s_iinc (k := 0) (lv' := [(4, .int (v4 + 1)), (3, .int v3), (0, rf G 0)]) dX10_text_131 rfl ci_1 rfl rfl ?_
    refine s_goto (tgt := 102) dX10_text_134 (by decide) ?_
    exact s_sub [0, 1, 2] rfl (hq102 (v4 + 1) M17)
theorem tX10_text_L102 (l : Launch) (G : Gx) (v3 : Int32) : ∀ (n : Nat) (v4 : Int32) (M : Mm), Sim cQi l layM G 83 cX10_text RX10 5 (some .int) 102 [(4, .int v4), (3, .int v3), (0, rf G 0)] [] M (fX10_text_L102 v3 n v4 M)
  | 0, _, _ => s_none
  | n + 1, v4, M => tX10_text_L102b l G v3 _ (tX10_text_L102 l G v3 n) v4 M
def fX10_text_B60 (v1 : Int32) (w0 : Int32) (M : Mm) : Option (Int32 × Mm) :=
  lt (wr M 1 (ix (5 : Int32)) (0 : Int32)) fun M11 =>
  if w0 = 0 then (some ((-10 : Int32) - (M11 0 5), M11))
  else lt ((292 : Int32) + ((125 : Int32) * v1)) fun x12 =>
  gd (inb x12 626) <|
  lt (wr M11 1 (ix x12) (M11 0 7)) fun M14 =>
  fX10_text_L102 x12 FU (0 : Int32) M14
theorem tX10_text_B60 (l : Launch) (G : Gx) (v1 : Int32) (w0 : Int32) (M : Mm) : Sim cQi l layM G 83 cX10_text RX10 5 (some .int) 60 [(0, rf G 0), (1, .int v1)] [.int w0] M (fX10_text_B60 v1 w0 M) := by
  unfold fX10_text_B60
  refine s_istore_n (lv' := [(2, .int w0), (0, rf G 0), (1, .int v1)]) dX10_text_60 rfl rfl rfl ?_
  refine s_aload_n 1 dX10_text_61 rfl rfl ?_
  refine g_X10_7 (q := 1) rfl rfl dX10_text_62 ?_
  refine s_iconst (v := 5) dX10_text_65 ci_5 ?_
  refine s_iconst (v := 0) dX10_text_66 ci_0 ?_
  refine s_iast (n := 626) rfl (by decide) dX10_text_67 ?_
  refine s_letM fun M11 => ?_
  refine s_iload_n 0 dX10_text_68 rfl rfl ?_
  refine s_ifne (tgt := 80) dX10_text_69 (by decide) ?_ ?_
  · refine s_sipush (v := 292) dX10_text_80 cs_292 ?_
    refine s_bipush (v := 125) dX10_text_83 cb_125 ?_
    refine s_iload_n 2 dX10_text_85 rfl rfl ?_
    refine s_imul dX10_text_86 ?_
    refine s_iadd dX10_text_87 ?_
    refine s_leti fun x12 => ?_
    refine s_istore_n (lv' := [(3, .int x12), (2, .int w0), (0, rf G 0), (1, .int v1)]) dX10_text_88 rfl rfl rfl ?_
    refine s_aload_n 2 dX10_text_89 rfl rfl ?_
    refine g_X10_7 (q := 1) rfl rfl dX10_text_90 ?_
    refine s_iload_n 0 dX10_text_93 rfl rfl ?_
    refine s_aload_n 2 dX10_text_94 rfl rfl ?_
    refine g_X10_91 rfl dX10_text_95 ?_
    refine s_gd fun h13 => ?_
    refine s_iast (n := 626) rfl h13 dX10_text_98 ?_
    refine s_letM fun M14 => ?_
    refine s_iconst (v := 0) dX10_text_99 ci_0 ?_
    refine s_istore (lv' := [(4, .int (0 : Int32)), (3, .int x12), (2, .int w0), (0, rf G 0), (1, .int v1)]) dX10_text_100 rfl rfl ?_
    exact s_sub [0, 1, 3] rfl (tX10_text_L102 l G x12 FU (0 : Int32) M14)
  · refine s_bipush (v := -10) dX10_text_72 cb_m10 ?_
    refine s_aload_n 1 dX10_text_74 rfl rfl ?_
    refine g_X10_84 rfl dX10_text_75 ?_
    refine s_isub dX10_text_78 ?_
    exact s_iret rfl dX10_text_79
def fX10_text_B59 (v1 : Int32) (M : Mm) : Option (Int32 × Mm) :=
  fX10_text_B60 v1 (0 : Int32) M
theorem tX10_text_B59 (l : Launch) (G : Gx) (v1 : Int32) (M : Mm) : Sim cQi l layM G 83 cX10_text RX10 5 (some .int) 59 [(0, rf G 0), (1, .int v1)] [] M (fX10_text_B59 v1 M) := by
  unfold fX10_text_B59
  refine s_iconst (v := 0) dX10_text_59 ci_0 ?_
  exact s_sub [0, 1] rfl (tX10_text_B60 l G v1 (0 : Int32) M)
def fX10_text (a1 : Int32) (M : Mm) : Option (Int32 × Mm) :=
  bd (fX10_in a1 (0 : Int32) (1 : Int32) M) fun r1 M2 =>
  if r1 = true then (lt (wr M2 0 8 a1) fun M5 =>
  lt (wr M5 0 5 (0 : Int32)) fun M6 =>
  lt (wr M6 0 6 (0 : Int32)) fun M7 =>
  lt (wr M7 0 7 (0 : Int32)) fun M8 =>
  bd (fX10_whole DPM M8) fun r9 M10 =>
  if r9 = true then (if (M10 0 5) = (M10 1 (ix (5 : Int32))) then (fX10_text_B60 a1 (1 : Int32) M10)
  else fX10_text_B59 a1 M10)
  else fX10_text_B59 a1 M10)
  else bd (fX10_error (1 : Int32) M2) fun r3 M4 =>
  some (r3, M4)
theorem mX10_text (l : Launch) (G : Gx) (a1 : Int32) (M : Mm) : Mt cQi l layM G 83 yX10_text cX10_text 5 (some .int) [rf G 0, .int a1] M (fX10_text a1 M) := by
  refine Mt.of2 (own := RX10) (lv := [(0, rf G 0), (1, .int a1)]) rfl (by decide +kernel) rfl rfl ?_
  unfold fX10_text
  refine s_iload_n 1 dX10_text_0 rfl rfl ?_
  refine s_iconst (v := 0) dX10_text_1 ci_0 ?_
  refine s_iconst (v := 1) dX10_text_2 ci_1 ?_
  refine s_call_z (s_runS (rest := []) (mX10_in l G a1 (0 : Int32) (1 : Int32) M) ok_X10_in k_X10_59 rfl rfl rfl rfl dX10_text_3) fun r1 M2 => ?_
  refine s_ifneB (tgt := 15) dX10_text_6 (by decide) ?_ ?_
  · refine s_aload_n 0 dX10_text_15 rfl rfl ?_
    refine s_iload_n 1 dX10_text_16 rfl rfl ?_
    refine p_X10_88 rfl dX10_text_17 ?_
    refine s_letM fun M5 => ?_
    refine s_aload_n 0 dX10_text_20 rfl rfl ?_
    refine s_iconst (v := 0) dX10_text_21 ci_0 ?_
    refine p_X10_84 rfl dX10_text_22 ?_
    refine s_letM fun M6 => ?_
    refine s_aload_n 0 dX10_text_25 rfl rfl ?_
    refine s_iconst (v := 0) dX10_text_26 ci_0 ?_
    refine p_X10_118 rfl dX10_text_27 ?_
    refine s_letM fun M7 => ?_
    refine s_aload_n 0 dX10_text_30 rfl rfl ?_
    refine s_iconst (v := 0) dX10_text_31 ci_0 ?_
    refine p_X10_91 rfl dX10_text_32 ?_
    refine s_letM fun M8 => ?_
    refine s_aload_n 0 dX10_text_35 rfl rfl ?_
    refine s_call_z (s_runV (ci := 10) (rest := []) rfl rfl (mX10_whole l G DPM M8) ok_X10_whole k_X10_128 rfl rfl rfl rfl dX10_text_36) fun r9 M10 => ?_
    refine s_ifeqB (tgt := 59) dX10_text_39 (by decide) ?_ ?_
    · exact s_sub [0, 1] rfl (tX10_text_B59 l G a1 M10)
    · refine s_aload_n 0 dX10_text_42 rfl rfl ?_
      refine g_X10_84 rfl dX10_text_43 ?_
      refine s_aload_n 0 dX10_text_46 rfl rfl ?_
      refine g_X10_7 (q := 1) rfl rfl dX10_text_47 ?_
      refine s_iconst (v := 5) dX10_text_50 ci_5 ?_
      refine s_iald (n := 626) rfl (by decide) dX10_text_51 ?_
      refine s_icmpne (tgt := 59) dX10_text_52 (by decide) ?_ ?_
      · exact s_sub [0, 1] rfl (tX10_text_B59 l G a1 M10)
      · refine s_iconst (v := 1) dX10_text_55 ci_1 ?_
        refine s_goto (tgt := 60) dX10_text_56 (by decide) ?_
        exact s_sub [0, 1] rfl (tX10_text_B60 l G a1 (1 : Int32) M10)
  · refine s_aload_n 0 dX10_text_9 rfl rfl ?_
    refine s_iconst (v := 1) dX10_text_10 ci_1 ?_
    refine s_call_i (s_runV (ci := 10) (rest := []) rfl rfl (mX10_error l G (1 : Int32) M2) ok_X10_error k_X10_75 rfl rfl rfl rfl dX10_text_11) fun r3 M4 => ?_
    exact s_iret rfl dX10_text_14
theorem dX10_untell_0 : decode cX10_untell 0 = .ok (.iload_n 1, 1) := by decide +kernel
theorem dX10_untell_1 : decode cX10_untell 1 = .ok (.iconst 0, 1) := by decide +kernel
theorem dX10_untell_2 : decode cX10_untell 2 = .ok (.iconst 1, 1) := by decide +kernel
theorem dX10_untell_3 : decode cX10_untell 3 = .ok (.invokestatic 59, 3) := by decide +kernel
theorem dX10_untell_6 : decode cX10_untell 6 = .ok (.ifCond .ne 9, 3) := by decide +kernel
theorem dX10_untell_9 : decode cX10_untell 9 = .ok (.aload_n 0, 1) := by decide +kernel
theorem dX10_untell_10 : decode cX10_untell 10 = .ok (.iconst 1, 1) := by decide +kernel
theorem dX10_untell_11 : decode cX10_untell 11 = .ok (.invokevirtual 75, 3) := by decide +kernel
theorem dX10_untell_14 : decode cX10_untell 14 = .ok (.ireturn, 1) := by decide +kernel
theorem dX10_untell_15 : decode cX10_untell 15 = .ok (.aload_n 0, 1) := by decide +kernel
theorem dX10_untell_16 : decode cX10_untell 16 = .ok (.iload_n 1, 1) := by decide +kernel
theorem dX10_untell_17 : decode cX10_untell 17 = .ok (.invokevirtual 131, 3) := by decide +kernel
theorem dX10_untell_20 : decode cX10_untell 20 = .ok (.ifCond .eq 7, 3) := by decide +kernel
theorem dX10_untell_23 : decode cX10_untell 23 = .ok (.iconst 1, 1) := by decide +kernel
theorem dX10_untell_24 : decode cX10_untell 24 = .ok (.goto 4, 3) := by decide +kernel
theorem dX10_untell_27 : decode cX10_untell 27 = .ok (.iconst 0, 1) := by decide +kernel
theorem dX10_untell_28 : decode cX10_untell 28 = .ok (.istore_n 2, 1) := by decide +kernel
theorem dX10_untell_29 : decode cX10_untell 29 = .ok (.aload_n 0, 1) := by decide +kernel
theorem dX10_untell_30 : decode cX10_untell 30 = .ok (.getfield 7, 3) := by decide +kernel
theorem dX10_untell_33 : decode cX10_untell 33 = .ok (.sipush 292, 3) := by decide +kernel
theorem dX10_untell_36 : decode cX10_untell 36 = .ok (.bipush 125, 2) := by decide +kernel
theorem dX10_untell_38 : decode cX10_untell 38 = .ok (.iload_n 1, 1) := by decide +kernel
theorem dX10_untell_39 : decode cX10_untell 39 = .ok (.imul, 1) := by decide +kernel
theorem dX10_untell_40 : decode cX10_untell 40 = .ok (.iadd, 1) := by decide +kernel
theorem dX10_untell_41 : decode cX10_untell 41 = .ok (.iconst 0, 1) := by decide +kernel
theorem dX10_untell_42 : decode cX10_untell 42 = .ok (.iastore, 1) := by decide +kernel
theorem dX10_untell_43 : decode cX10_untell 43 = .ok (.iload_n 2, 1) := by decide +kernel
theorem dX10_untell_44 : decode cX10_untell 44 = .ok (.ireturn, 1) := by decide +kernel
def fX10_untell_B28 (v1 : Int32) (w0 : Int32) (M : Mm) : Option (Int32 × Mm) :=
  gd (inb ((292 : Int32) + ((125 : Int32) * v1)) 626) <|
  lt (wr M 1 (ix ((292 : Int32) + ((125 : Int32) * v1))) (0 : Int32)) fun M8 =>
  some (w0, M8)
theorem tX10_untell_B28 (l : Launch) (G : Gx) (v1 : Int32) (w0 : Int32) (M : Mm) : Sim cQi l layM G 2 cX10_untell RX10 3 (some .int) 28 [(0, rf G 0), (1, .int v1)] [.int w0] M (fX10_untell_B28 v1 w0 M) := by
  unfold fX10_untell_B28
  refine s_istore_n (lv' := [(2, .int w0), (0, rf G 0), (1, .int v1)]) dX10_untell_28 rfl rfl rfl ?_
  refine s_aload_n 1 dX10_untell_29 rfl rfl ?_
  refine g_X10_7 (q := 1) rfl rfl dX10_untell_30 ?_
  refine s_sipush (v := 292) dX10_untell_33 cs_292 ?_
  refine s_bipush (v := 125) dX10_untell_36 cb_125 ?_
  refine s_iload_n 2 dX10_untell_38 rfl rfl ?_
  refine s_imul dX10_untell_39 ?_
  refine s_iadd dX10_untell_40 ?_
  refine s_iconst (v := 0) dX10_untell_41 ci_0 ?_
  refine s_gd fun h7 => ?_
  refine s_iast (n := 626) rfl h7 dX10_untell_42 ?_
  refine s_letM fun M8 => ?_
  refine s_iload_n 0 dX10_untell_43 rfl rfl ?_
  exact s_iret rfl dX10_untell_44
def fX10_untell (a1 : Int32) (M : Mm) : Option (Int32 × Mm) :=
  bd (fX10_in a1 (0 : Int32) (1 : Int32) M) fun r1 M2 =>
  if r1 = true then (bd (fX10_hasText a1 M2) fun r5 M6 =>
  if r5 = true then (fX10_untell_B28 a1 (1 : Int32) M6)
  else fX10_untell_B28 a1 (0 : Int32) M6)
  else bd (fX10_error (1 : Int32) M2) fun r3 M4 =>
  some (r3, M4)
theorem mX10_untell (l : Launch) (G : Gx) (a1 : Int32) (M : Mm) : Mt cQi l layM G 2 yX10_untell cX10_untell 3 (some .int) [rf G 0, .int a1] M (fX10_untell a1 M) := by
  refine Mt.of2 (own := RX10) (lv := [(0, rf G 0), (1, .int a1)]) rfl (by decide +kernel) rfl rfl ?_
  unfold fX10_untell
  refine s_iload_n 1 dX10_untell_0 rfl rfl ?_
  refine s_iconst (v := 0) dX10_untell_1 ci_0 ?_
  refine s_iconst (v := 1) dX10_untell_2 ci_1 ?_
  refine s_call_z (s_runS (rest := []) (mX10_in l G a1 (0 : Int32) (1 : Int32) M) ok_X10_in k_X10_59 rfl rfl rfl rfl dX10_untell_3) fun r1 M2 => ?_
  refine s_ifneB (tgt := 15) dX10_untell_6 (by decide) ?_ ?_
  · refine s_aload_n 0 dX10_untell_15 rfl rfl ?_
    refine s_iload_n 1 dX10_untell_16 rfl rfl ?_
    refine s_call_z (s_runV (ci := 10) (rest := []) rfl rfl (mX10_hasText l G a1 M2) ok_X10_hasText k_X10_131 rfl rfl rfl rfl dX10_untell_17) fun r5 M6 => ?_
    refine s_ifeqB (tgt := 27) dX10_untell_20 (by decide) ?_ ?_
    · refine s_iconst (v := 0) dX10_untell_27 ci_0 ?_
      exact s_sub [0, 1] rfl (tX10_untell_B28 l G a1 (0 : Int32) M6)
    · refine s_iconst (v := 1) dX10_untell_23 ci_1 ?_
      refine s_goto (tgt := 28) dX10_untell_24 (by decide) ?_
      exact s_sub [0, 1] rfl (tX10_untell_B28 l G a1 (1 : Int32) M6)
  · refine s_aload_n 0 dX10_untell_9 rfl rfl ?_
    refine s_iconst (v := 1) dX10_untell_10 ci_1 ?_
    refine s_call_i (s_runV (ci := 10) (rest := []) rfl rfl (mX10_error l G (1 : Int32) M2) ok_X10_error k_X10_75 rfl rfl rfl rfl dX10_untell_11) fun r3 M4 => ?_
    exact s_iret rfl dX10_untell_14
theorem dX10_joined_0 : decode cX10_joined 0 = .ok (.iload_n 0, 1) := by decide +kernel
theorem dX10_joined_1 : decode cX10_joined 1 = .ok (.tableswitch 217 37 62 #[153, 203, 217, 217, 217, 127, 119, 217, 123, 217, 131, 217, 217, 217, 217, 217, 217, 217, 217, 217, 217, 217, 217, 170, 192, 181], 119) := by decide +kernel
theorem dX10_joined_120 : decode cX10_joined 120 = .ok (.iload_n 1, 1) := by decide +kernel
theorem dX10_joined_121 : decode cX10_joined 121 = .ok (.iload_n 2, 1) := by decide +kernel
theorem dX10_joined_122 : decode cX10_joined 122 = .ok (.iadd, 1) := by decide +kernel
theorem dX10_joined_123 : decode cX10_joined 123 = .ok (.ireturn, 1) := by decide +kernel
theorem dX10_joined_124 : decode cX10_joined 124 = .ok (.iload_n 1, 1) := by decide +kernel
theorem dX10_joined_125 : decode cX10_joined 125 = .ok (.iload_n 2, 1) := by decide +kernel
theorem dX10_joined_126 : decode cX10_joined 126 = .ok (.isub, 1) := by decide +kernel
theorem dX10_joined_127 : decode cX10_joined 127 = .ok (.ireturn, 1) := by decide +kernel
theorem dX10_joined_128 : decode cX10_joined 128 = .ok (.iload_n 1, 1) := by decide +kernel
theorem dX10_joined_129 : decode cX10_joined 129 = .ok (.iload_n 2, 1) := by decide +kernel
theorem dX10_joined_130 : decode cX10_joined 130 = .ok (.imul, 1) := by decide +kernel
theorem dX10_joined_131 : decode cX10_joined 131 = .ok (.ireturn, 1) := by decide +kernel
theorem dX10_joined_132 : decode cX10_joined 132 = .ok (.iload_n 2, 1) := by decide +kernel
theorem dX10_joined_133 : decode cX10_joined 133 = .ok (.ifCond .ne 7, 3) := by decide +kernel
theorem dX10_joined_136 : decode cX10_joined 136 = .ok (.iconst 0, 1) := by decide +kernel
theorem dX10_joined_137 : decode cX10_joined 137 = .ok (.goto 16, 3) := by decide +kernel
theorem dX10_joined_140 : decode cX10_joined 140 = .ok (.iload_n 2, 1) := by decide +kernel
theorem dX10_joined_141 : decode cX10_joined 141 = .ok (.iconst (-1), 1) := by decide +kernel
theorem dX10_joined_142 : decode cX10_joined 142 = .ok (.if_icmp .ne 8, 3) := by decide +kernel
theorem dX10_joined_145 : decode cX10_joined 145 = .ok (.iload_n 1, 1) := by decide +kernel
theorem dX10_joined_146 : decode cX10_joined 146 = .ok (.ineg, 1) := by decide +kernel
theorem dX10_joined_147 : decode cX10_joined 147 = .ok (.goto 6, 3) := by decide +kernel
theorem dX10_joined_150 : decode cX10_joined 150 = .ok (.iload_n 1, 1) := by decide +kernel
theorem dX10_joined_151 : decode cX10_joined 151 = .ok (.iload_n 2, 1) := by decide +kernel
theorem dX10_joined_152 : decode cX10_joined 152 = .ok (.idiv, 1) := by decide +kernel
theorem dX10_joined_153 : decode cX10_joined 153 = .ok (.ireturn, 1) := by decide +kernel
theorem dX10_joined_154 : decode cX10_joined 154 = .ok (.iload_n 2, 1) := by decide +kernel
theorem dX10_joined_155 : decode cX10_joined 155 = .ok (.ifCond .eq 8, 3) := by decide +kernel
theorem dX10_joined_158 : decode cX10_joined 158 = .ok (.iload_n 2, 1) := by decide +kernel
theorem dX10_joined_159 : decode cX10_joined 159 = .ok (.iconst (-1), 1) := by decide +kernel
theorem dX10_joined_160 : decode cX10_joined 160 = .ok (.if_icmp .ne 7, 3) := by decide +kernel
theorem dX10_joined_163 : decode cX10_joined 163 = .ok (.iconst 0, 1) := by decide +kernel
theorem dX10_joined_164 : decode cX10_joined 164 = .ok (.goto 6, 3) := by decide +kernel
theorem dX10_joined_167 : decode cX10_joined 167 = .ok (.iload_n 1, 1) := by decide +kernel
theorem dX10_joined_168 : decode cX10_joined 168 = .ok (.iload_n 2, 1) := by decide +kernel
theorem dX10_joined_169 : decode cX10_joined 169 = .ok (.irem, 1) := by decide +kernel
theorem dX10_joined_170 : decode cX10_joined 170 = .ok (.ireturn, 1) := by decide +kernel
theorem dX10_joined_171 : decode cX10_joined 171 = .ok (.iload_n 1, 1) := by decide +kernel
theorem dX10_joined_172 : decode cX10_joined 172 = .ok (.iload_n 2, 1) := by decide +kernel
theorem dX10_joined_173 : decode cX10_joined 173 = .ok (.if_icmp .ge 7, 3) := by decide +kernel
theorem dX10_joined_176 : decode cX10_joined 176 = .ok (.iconst 1, 1) := by decide +kernel
theorem dX10_joined_177 : decode cX10_joined 177 = .ok (.goto 4, 3) := by decide +kernel
theorem dX10_joined_180 : decode cX10_joined 180 = .ok (.iconst 0, 1) := by decide +kernel
theorem dX10_joined_181 : decode cX10_joined 181 = .ok (.ireturn, 1) := by decide +kernel
theorem dX10_joined_182 : decode cX10_joined 182 = .ok (.iload_n 1, 1) := by decide +kernel
theorem dX10_joined_183 : decode cX10_joined 183 = .ok (.iload_n 2, 1) := by decide +kernel
theorem dX10_joined_184 : decode cX10_joined 184 = .ok (.if_icmp .le 7, 3) := by decide +kernel
theorem dX10_joined_187 : decode cX10_joined 187 = .ok (.iconst 1, 1) := by decide +kernel
theorem dX10_joined_188 : decode cX10_joined 188 = .ok (.goto 4, 3) := by decide +kernel
theorem dX10_joined_191 : decode cX10_joined 191 = .ok (.iconst 0, 1) := by decide +kernel
theorem dX10_joined_192 : decode cX10_joined 192 = .ok (.ireturn, 1) := by decide +kernel
theorem dX10_joined_193 : decode cX10_joined 193 = .ok (.iload_n 1, 1) := by decide +kernel
theorem dX10_joined_194 : decode cX10_joined 194 = .ok (.iload_n 2, 1) := by decide +kernel
theorem dX10_joined_195 : decode cX10_joined 195 = .ok (.if_icmp .ne 7, 3) := by decide +kernel
theorem dX10_joined_198 : decode cX10_joined 198 = .ok (.iconst 1, 1) := by decide +kernel
theorem dX10_joined_199 : decode cX10_joined 199 = .ok (.goto 4, 3) := by decide +kernel
theorem dX10_joined_202 : decode cX10_joined 202 = .ok (.iconst 0, 1) := by decide +kernel
theorem dX10_joined_203 : decode cX10_joined 203 = .ok (.ireturn, 1) := by decide +kernel
theorem dX10_joined_204 : decode cX10_joined 204 = .ok (.iload_n 1, 1) := by decide +kernel
theorem dX10_joined_205 : decode cX10_joined 205 = .ok (.ifCond .eq 11, 3) := by decide +kernel
theorem dX10_joined_208 : decode cX10_joined 208 = .ok (.iload_n 2, 1) := by decide +kernel
theorem dX10_joined_209 : decode cX10_joined 209 = .ok (.ifCond .eq 7, 3) := by decide +kernel
theorem dX10_joined_212 : decode cX10_joined 212 = .ok (.iconst 1, 1) := by decide +kernel
theorem dX10_joined_213 : decode cX10_joined 213 = .ok (.goto 4, 3) := by decide +kernel
theorem dX10_joined_216 : decode cX10_joined 216 = .ok (.iconst 0, 1) := by decide +kernel
theorem dX10_joined_217 : decode cX10_joined 217 = .ok (.ireturn, 1) := by decide +kernel
theorem dX10_joined_218 : decode cX10_joined 218 = .ok (.iload_n 1, 1) := by decide +kernel
theorem dX10_joined_219 : decode cX10_joined 219 = .ok (.ifCond .ne 7, 3) := by decide +kernel
theorem dX10_joined_222 : decode cX10_joined 222 = .ok (.iload_n 2, 1) := by decide +kernel
theorem dX10_joined_223 : decode cX10_joined 223 = .ok (.ifCond .eq 7, 3) := by decide +kernel
theorem dX10_joined_226 : decode cX10_joined 226 = .ok (.iconst 1, 1) := by decide +kernel
theorem dX10_joined_227 : decode cX10_joined 227 = .ok (.goto 4, 3) := by decide +kernel
theorem dX10_joined_230 : decode cX10_joined 230 = .ok (.iconst 0, 1) := by decide +kernel
theorem dX10_joined_231 : decode cX10_joined 231 = .ok (.ireturn, 1) := by decide +kernel
def fX10_joined_B170 (w0 : Int32) (M : Mm) : Option (Int32 × Mm) :=
  some (w0, M)
theorem tX10_joined_B170 (l : Launch) (G : Gx) (w0 : Int32) (M : Mm) : Sim cQi l layM G 1 cX10_joined RX10 3 (some .int) 170 [] [.int w0] M (fX10_joined_B170 w0 M) := by
  unfold fX10_joined_B170
  exact s_iret rfl dX10_joined_170
def fX10_joined_B163 (M : Mm) : Option (Int32 × Mm) :=
  fX10_joined_B170 (0 : Int32) M
theorem tX10_joined_B163 (l : Launch) (G : Gx) (M : Mm) : Sim cQi l layM G 1 cX10_joined RX10 3 (some .int) 163 [] [] M (fX10_joined_B163 M) := by
  unfold fX10_joined_B163
  refine s_iconst (v := 0) dX10_joined_163 ci_0 ?_
  refine s_goto (tgt := 170) dX10_joined_164 (by decide) ?_
  exact s_sub [] rfl (tX10_joined_B170 l G (0 : Int32) M)
def fX10_joined_B217 (w0 : Int32) (M : Mm) : Option (Int32 × Mm) :=
  some (w0, M)
theorem tX10_joined_B217 (l : Launch) (G : Gx) (w0 : Int32) (M : Mm) : Sim cQi l layM G 1 cX10_joined RX10 3 (some .int) 217 [] [.int w0] M (fX10_joined_B217 w0 M) := by
  unfold fX10_joined_B217
  exact s_iret rfl dX10_joined_217
def fX10_joined_B216 (M : Mm) : Option (Int32 × Mm) :=
  fX10_joined_B217 (0 : Int32) M
theorem tX10_joined_B216 (l : Launch) (G : Gx) (M : Mm) : Sim cQi l layM G 1 cX10_joined RX10 3 (some .int) 216 [] [] M (fX10_joined_B216 M) := by
  unfold fX10_joined_B216
  refine s_iconst (v := 0) dX10_joined_216 ci_0 ?_
  exact s_sub [] rfl (tX10_joined_B217 l G (0 : Int32) M)
def fX10_joined_B231 (w0 : Int32) (M : Mm) : Option (Int32 × Mm) :=
  some (w0, M)
theorem tX10_joined_B231 (l : Launch) (G : Gx) (w0 : Int32) (M : Mm) : Sim cQi l layM G 1 cX10_joined RX10 3 (some .int) 231 [] [.int w0] M (fX10_joined_B231 w0 M) := by
  unfold fX10_joined_B231
  exact s_iret rfl dX10_joined_231
def fX10_joined_B226 (M : Mm) : Option (Int32 × Mm) :=
  fX10_joined_B231 (1 : Int32) M
theorem tX10_joined_B226 (l : Launch) (G : Gx) (M : Mm) : Sim cQi l layM G 1 cX10_joined RX10 3 (some .int) 226 [] [] M (fX10_joined_B226 M) := by
  unfold fX10_joined_B226
  refine s_iconst (v := 1) dX10_joined_226 ci_1 ?_
  refine s_goto (tgt := 231) dX10_joined_227 (by decide) ?_
  exact s_sub [] rfl (tX10_joined_B231 l G (1 : Int32) M)
def fX10_joined_B153 (w0 : Int32) (M : Mm) : Option (Int32 × Mm) :=
  some (w0, M)
theorem tX10_joined_B153 (l : Launch) (G : Gx) (w0 : Int32) (M : Mm) : Sim cQi l layM G 1 cX10_joined RX10 3 (some .int) 153 [] [.int w0] M (fX10_joined_B153 w0 M) := by
  unfold fX10_joined_B153
  exact s_iret rfl dX10_joined_153
def fX10_joined_B181 (w0 : Int32) (M : Mm) : Option (Int32 × Mm) :=
  some (w0, M)
theorem tX10_joined_B181 (l : Launch) (G : Gx) (w0 : Int32) (M : Mm) : Sim cQi l layM G 1 cX10_joined RX10 3 (some .int) 181 [] [.int w0] M (fX10_joined_B181 w0 M) := by
  unfold fX10_joined_B181
  exact s_iret rfl dX10_joined_181
def fX10_joined_B203 (w0 : Int32) (M : Mm) : Option (Int32 × Mm) :=
  some (w0, M)
theorem tX10_joined_B203 (l : Launch) (G : Gx) (w0 : Int32) (M : Mm) : Sim cQi l layM G 1 cX10_joined RX10 3 (some .int) 203 [] [.int w0] M (fX10_joined_B203 w0 M) := by
  unfold fX10_joined_B203
  exact s_iret rfl dX10_joined_203
def fX10_joined_B192 (w0 : Int32) (M : Mm) : Option (Int32 × Mm) :=
  some (w0, M)
theorem tX10_joined_B192 (l : Launch) (G : Gx) (w0 : Int32) (M : Mm) : Sim cQi l layM G 1 cX10_joined RX10 3 (some .int) 192 [] [.int w0] M (fX10_joined_B192 w0 M) := by
  unfold fX10_joined_B192
  exact s_iret rfl dX10_joined_192
def fX10_joined (a1 : Int32) (a2 : Int32) (a3 : Int32) (M : Mm) : Option (Int32 × Mm) :=
  if a1 = 37 then (if a3 = 0 then (fX10_joined_B163 M)
  else if a3 = (-1 : Int32) then (fX10_joined_B163 M)
  else gd (nz a3) <|
  fX10_joined_B170 (a2 - a2 / a3 * a3) M)
  else if a1 = 38 then (if a2 = 0 then (fX10_joined_B216 M)
  else if a3 = 0 then (fX10_joined_B216 M)
  else fX10_joined_B217 (1 : Int32) M)
  else if a1 = 39 then (if a2 = 0 then (if a3 = 0 then (fX10_joined_B231 (0 : Int32) M)
  else fX10_joined_B226 M)
  else fX10_joined_B226 M)
  else if a1 = 40 then (if a2 = 0 then (if a3 = 0 then (fX10_joined_B231 (0 : Int32) M)
  else fX10_joined_B226 M)
  else fX10_joined_B226 M)
  else if a1 = 41 then (if a2 = 0 then (if a3 = 0 then (fX10_joined_B231 (0 : Int32) M)
  else fX10_joined_B226 M)
  else fX10_joined_B226 M)
  else if a1 = 42 then (some (a2 * a3, M))
  else if a1 = 43 then (some (a2 + a3, M))
  else if a1 = 44 then (if a2 = 0 then (if a3 = 0 then (fX10_joined_B231 (0 : Int32) M)
  else fX10_joined_B226 M)
  else fX10_joined_B226 M)
  else if a1 = 45 then (some (a2 - a3, M))
  else if a1 = 46 then (if a2 = 0 then (if a3 = 0 then (fX10_joined_B231 (0 : Int32) M)
  else fX10_joined_B226 M)
  else fX10_joined_B226 M)
  else if a1 = 47 then (if a3 = 0 then (fX10_joined_B153 (0 : Int32) M)
  else if a3 = (-1 : Int32) then (fX10_joined_B153 (-a2) M)
  else gd (nz a3) <|
  fX10_joined_B153 (a2 / a3) M)
  else if a1 = 48 then (if a2 = 0 then (if a3 = 0 then (fX10_joined_B231 (0 : Int32) M)
  else fX10_joined_B226 M)
  else fX10_joined_B226 M)
  else if a1 = 49 then (if a2 = 0 then (if a3 = 0 then (fX10_joined_B231 (0 : Int32) M)
  else fX10_joined_B226 M)
  else fX10_joined_B226 M)
  else if a1 = 50 then (if a2 = 0 then (if a3 = 0 then (fX10_joined_B231 (0 : Int32) M)
  else fX10_joined_B226 M)
  else fX10_joined_B226 M)
  else if a1 = 51 then (if a2 = 0 then (if a3 = 0 then (fX10_joined_B231 (0 : Int32) M)
  else fX10_joined_B226 M)
  else fX10_joined_B226 M)
  else if a1 = 52 then (if a2 = 0 then (if a3 = 0 then (fX10_joined_B231 (0 : Int32) M)
  else fX10_joined_B226 M)
  else fX10_joined_B226 M)
  else if a1 = 53 then (if a2 = 0 then (if a3 = 0 then (fX10_joined_B231 (0 : Int32) M)
  else fX10_joined_B226 M)
  else fX10_joined_B226 M)
  else if a1 = 54 then (if a2 = 0 then (if a3 = 0 then (fX10_joined_B231 (0 : Int32) M)
  else fX10_joined_B226 M)
  else fX10_joined_B226 M)
  else if a1 = 55 then (if a2 = 0 then (if a3 = 0 then (fX10_joined_B231 (0 : Int32) M)
  else fX10_joined_B226 M)
  else fX10_joined_B226 M)
  else if a1 = 56 then (if a2 = 0 then (if a3 = 0 then (fX10_joined_B231 (0 : Int32) M)
  else fX10_joined_B226 M)
  else fX10_joined_B226 M)
  else if a1 = 57 then (if a2 = 0 then (if a3 = 0 then (fX10_joined_B231 (0 : Int32) M)
  else fX10_joined_B226 M)
  else fX10_joined_B226 M)
  else if a1 = 58 then (if a2 = 0 then (if a3 = 0 then (fX10_joined_B231 (0 : Int32) M)
  else fX10_joined_B226 M)
  else fX10_joined_B226 M)
  else if a1 = 59 then (if a2 = 0 then (if a3 = 0 then (fX10_joined_B231 (0 : Int32) M)
  else fX10_joined_B226 M)
  else fX10_joined_B226 M)
  else if a1 = 60 then (if a3 ≤ a2 then (fX10_joined_B181 (0 : Int32) M)
  else fX10_joined_B181 (1 : Int32) M)
  else if a1 = 61 then (if a2 = a3 then (fX10_joined_B203 (1 : Int32) M)
  else fX10_joined_B203 (0 : Int32) M)
  else if a1 = 62 then (if a2 ≤ a3 then (fX10_joined_B192 (0 : Int32) M)
  else fX10_joined_B192 (1 : Int32) M)
  else if a2 = 0 then (if a3 = 0 then (fX10_joined_B231 (0 : Int32) M)
  else fX10_joined_B226 M)
  else fX10_joined_B226 M
theorem mX10_joined (l : Launch) (G : Gx) (a1 : Int32) (a2 : Int32) (a3 : Int32) (M : Mm) : Mt cQi l layM G 1 yX10_joined cX10_joined 3 (some .int) [.int a1, .int a2, .int a3] M (fX10_joined a1 a2 a3 M) := by
  refine Mt.of2 (own := RX10) (lv := [(0, .int a1), (1, .int a2), (2, .int a3)]) rfl (by decide +kernel) rfl rfl ?_
  unfold fX10_joined
  refine s_iload_n 0 dX10_joined_0 rfl rfl ?_
  refine s_table (tgt := 218) dX10_joined_1 (by decide) (by decide) (by decide) ?_
  refine lk_cons (k := 37) (tgt := 154) (by decide) (by decide) ?_ ?_
  · refine s_iload_n 2 dX10_joined_154 rfl rfl ?_
    refine s_ifeq (tgt := 163) dX10_joined_155 (by decide) ?_ ?_
    · exact s_sub [] rfl (tX10_joined_B163 l G M)
    · refine s_iload_n 2 dX10_joined_158 rfl rfl ?_
      refine s_iconst (v := -1) dX10_joined_159 ci_m1 ?_
      refine s_icmpne (tgt := 167) dX10_joined_160 (by decide) ?_ ?_
      · refine s_iload_n 1 dX10_joined_167 rfl rfl ?_
        refine s_iload_n 2 dX10_joined_168 rfl rfl ?_
        refine s_gd fun h1 => ?_
        refine s_irem dX10_joined_169 h1 ?_
        exact s_sub [] rfl (tX10_joined_B170 l G (a2 - a2 / a3 * a3) M)
      · exact s_sub [] rfl (tX10_joined_B163 l G M)
  refine lk_cons (k := 38) (tgt := 204) (by decide) (by decide) ?_ ?_
  · refine s_iload_n 1 dX10_joined_204 rfl rfl ?_
    refine s_ifeq (tgt := 216) dX10_joined_205 (by decide) ?_ ?_
    · exact s_sub [] rfl (tX10_joined_B216 l G M)
    · refine s_iload_n 2 dX10_joined_208 rfl rfl ?_
      refine s_ifeq (tgt := 216) dX10_joined_209 (by decide) ?_ ?_
      · exact s_sub [] rfl (tX10_joined_B216 l G M)
      · refine s_iconst (v := 1) dX10_joined_212 ci_1 ?_
        refine s_goto (tgt := 217) dX10_joined_213 (by decide) ?_
        exact s_sub [] rfl (tX10_joined_B217 l G (1 : Int32) M)
  refine lk_cons (k := 39) (tgt := 218) (by decide) (by decide) ?_ ?_
  · refine s_iload_n 1 dX10_joined_218 rfl rfl ?_
    refine s_ifne (tgt := 226) dX10_joined_219 (by decide) ?_ ?_
    · exact s_sub [] rfl (tX10_joined_B226 l G M)
    · refine s_iload_n 2 dX10_joined_222 rfl rfl ?_
      refine s_ifeq (tgt := 230) dX10_joined_223 (by decide) ?_ ?_
      · refine s_iconst (v := 0) dX10_joined_230 ci_0 ?_
        exact s_sub [] rfl (tX10_joined_B231 l G (0 : Int32) M)
      · exact s_sub [] rfl (tX10_joined_B226 l G M)
  refine lk_cons (k := 40) (tgt := 218) (by decide) (by decide) ?_ ?_
  · refine s_iload_n 1 dX10_joined_218 rfl rfl ?_
    refine s_ifne (tgt := 226) dX10_joined_219 (by decide) ?_ ?_
    · exact s_sub [] rfl (tX10_joined_B226 l G M)
    · refine s_iload_n 2 dX10_joined_222 rfl rfl ?_
      refine s_ifeq (tgt := 230) dX10_joined_223 (by decide) ?_ ?_
      · refine s_iconst (v := 0) dX10_joined_230 ci_0 ?_
        exact s_sub [] rfl (tX10_joined_B231 l G (0 : Int32) M)
      · exact s_sub [] rfl (tX10_joined_B226 l G M)
  refine lk_cons (k := 41) (tgt := 218) (by decide) (by decide) ?_ ?_
  · refine s_iload_n 1 dX10_joined_218 rfl rfl ?_
    refine s_ifne (tgt := 226) dX10_joined_219 (by decide) ?_ ?_
    · exact s_sub [] rfl (tX10_joined_B226 l G M)
    · refine s_iload_n 2 dX10_joined_222 rfl rfl ?_
      refine s_ifeq (tgt := 230) dX10_joined_223 (by decide) ?_ ?_
      · refine s_iconst (v := 0) dX10_joined_230 ci_0 ?_
        exact s_sub [] rfl (tX10_joined_B231 l G (0 : Int32) M)
      · exact s_sub [] rfl (tX10_joined_B226 l G M)
  refine lk_cons (k := 42) (tgt := 128) (by decide) (by decide) ?_ ?_
  · refine s_iload_n 1 dX10_joined_128 rfl rfl ?_
    refine s_iload_n 2 dX10_joined_129 rfl rfl ?_
    refine s_imul dX10_joined_130 ?_
    exact s_iret rfl dX10_joined_131
  refine lk_cons (k := 43) (tgt := 120) (by decide) (by decide) ?_ ?_
  · refine s_iload_n 1 dX10_joined_120 rfl rfl ?_
    refine s_iload_n 2 dX10_joined_121 rfl rfl ?_
    refine s_iadd dX10_joined_122 ?_
    exact s_iret rfl dX10_joined_123
  refine lk_cons (k := 44) (tgt := 218) (by decide) (by decide) ?_ ?_
  · refine s_iload_n 1 dX10_joined_218 rfl rfl ?_
    refine s_ifne (tgt := 226) dX10_joined_219 (by decide) ?_ ?_
    · exact s_sub [] rfl (tX10_joined_B226 l G M)
    · refine s_iload_n 2 dX10_joined_222 rfl rfl ?_
      refine s_ifeq (tgt := 230) dX10_joined_223 (by decide) ?_ ?_
      · refine s_iconst (v := 0) dX10_joined_230 ci_0 ?_
        exact s_sub [] rfl (tX10_joined_B231 l G (0 : Int32) M)
      · exact s_sub [] rfl (tX10_joined_B226 l G M)
  refine lk_cons (k := 45) (tgt := 124) (by decide) (by decide) ?_ ?_
  · refine s_iload_n 1 dX10_joined_124 rfl rfl ?_
    refine s_iload_n 2 dX10_joined_125 rfl rfl ?_
    refine s_isub dX10_joined_126 ?_
    exact s_iret rfl dX10_joined_127
  refine lk_cons (k := 46) (tgt := 218) (by decide) (by decide) ?_ ?_
  · refine s_iload_n 1 dX10_joined_218 rfl rfl ?_
    refine s_ifne (tgt := 226) dX10_joined_219 (by decide) ?_ ?_
    · exact s_sub [] rfl (tX10_joined_B226 l G M)
    · refine s_iload_n 2 dX10_joined_222 rfl rfl ?_
      refine s_ifeq (tgt := 230) dX10_joined_223 (by decide) ?_ ?_
      · refine s_iconst (v := 0) dX10_joined_230 ci_0 ?_
        exact s_sub [] rfl (tX10_joined_B231 l G (0 : Int32) M)
      · exact s_sub [] rfl (tX10_joined_B226 l G M)
  refine lk_cons (k := 47) (tgt := 132) (by decide) (by decide) ?_ ?_
  · refine s_iload_n 2 dX10_joined_132 rfl rfl ?_
    refine s_ifne (tgt := 140) dX10_joined_133 (by decide) ?_ ?_
    · refine s_iload_n 2 dX10_joined_140 rfl rfl ?_
      refine s_iconst (v := -1) dX10_joined_141 ci_m1 ?_
      refine s_icmpne (tgt := 150) dX10_joined_142 (by decide) ?_ ?_
      · refine s_iload_n 1 dX10_joined_150 rfl rfl ?_
        refine s_iload_n 2 dX10_joined_151 rfl rfl ?_
        refine s_gd fun h2 => ?_
        refine s_idiv dX10_joined_152 h2 ?_
        exact s_sub [] rfl (tX10_joined_B153 l G (a2 / a3) M)
      · refine s_iload_n 1 dX10_joined_145 rfl rfl ?_
        refine s_ineg dX10_joined_146 ?_
        refine s_goto (tgt := 153) dX10_joined_147 (by decide) ?_
        exact s_sub [] rfl (tX10_joined_B153 l G (-a2) M)
    · refine s_iconst (v := 0) dX10_joined_136 ci_0 ?_
      refine s_goto (tgt := 153) dX10_joined_137 (by decide) ?_
      exact s_sub [] rfl (tX10_joined_B153 l G (0 : Int32) M)
  refine lk_cons (k := 48) (tgt := 218) (by decide) (by decide) ?_ ?_
  · refine s_iload_n 1 dX10_joined_218 rfl rfl ?_
    refine s_ifne (tgt := 226) dX10_joined_219 (by decide) ?_ ?_
    · exact s_sub [] rfl (tX10_joined_B226 l G M)
    · refine s_iload_n 2 dX10_joined_222 rfl rfl ?_
      refine s_ifeq (tgt := 230) dX10_joined_223 (by decide) ?_ ?_
      · refine s_iconst (v := 0) dX10_joined_230 ci_0 ?_
        exact s_sub [] rfl (tX10_joined_B231 l G (0 : Int32) M)
      · exact s_sub [] rfl (tX10_joined_B226 l G M)
  refine lk_cons (k := 49) (tgt := 218) (by decide) (by decide) ?_ ?_
  · refine s_iload_n 1 dX10_joined_218 rfl rfl ?_
    refine s_ifne (tgt := 226) dX10_joined_219 (by decide) ?_ ?_
    · exact s_sub [] rfl (tX10_joined_B226 l G M)
    · refine s_iload_n 2 dX10_joined_222 rfl rfl ?_
      refine s_ifeq (tgt := 230) dX10_joined_223 (by decide) ?_ ?_
      · refine s_iconst (v := 0) dX10_joined_230 ci_0 ?_
        exact s_sub [] rfl (tX10_joined_B231 l G (0 : Int32) M)
      · exact s_sub [] rfl (tX10_joined_B226 l G M)
  refine lk_cons (k := 50) (tgt := 218) (by decide) (by decide) ?_ ?_
  · refine s_iload_n 1 dX10_joined_218 rfl rfl ?_
    refine s_ifne (tgt := 226) dX10_joined_219 (by decide) ?_ ?_
    · exact s_sub [] rfl (tX10_joined_B226 l G M)
    · refine s_iload_n 2 dX10_joined_222 rfl rfl ?_
      refine s_ifeq (tgt := 230) dX10_joined_223 (by decide) ?_ ?_
      · refine s_iconst (v := 0) dX10_joined_230 ci_0 ?_
        exact s_sub [] rfl (tX10_joined_B231 l G (0 : Int32) M)
      · exact s_sub [] rfl (tX10_joined_B226 l G M)
  refine lk_cons (k := 51) (tgt := 218) (by decide) (by decide) ?_ ?_
  · refine s_iload_n 1 dX10_joined_218 rfl rfl ?_
    refine s_ifne (tgt := 226) dX10_joined_219 (by decide) ?_ ?_
    · exact s_sub [] rfl (tX10_joined_B226 l G M)
    · refine s_iload_n 2 dX10_joined_222 rfl rfl ?_
      refine s_ifeq (tgt := 230) dX10_joined_223 (by decide) ?_ ?_
      · refine s_iconst (v := 0) dX10_joined_230 ci_0 ?_
        exact s_sub [] rfl (tX10_joined_B231 l G (0 : Int32) M)
      · exact s_sub [] rfl (tX10_joined_B226 l G M)
  refine lk_cons (k := 52) (tgt := 218) (by decide) (by decide) ?_ ?_
  · refine s_iload_n 1 dX10_joined_218 rfl rfl ?_
    refine s_ifne (tgt := 226) dX10_joined_219 (by decide) ?_ ?_
    · exact s_sub [] rfl (tX10_joined_B226 l G M)
    · refine s_iload_n 2 dX10_joined_222 rfl rfl ?_
      refine s_ifeq (tgt := 230) dX10_joined_223 (by decide) ?_ ?_
      · refine s_iconst (v := 0) dX10_joined_230 ci_0 ?_
        exact s_sub [] rfl (tX10_joined_B231 l G (0 : Int32) M)
      · exact s_sub [] rfl (tX10_joined_B226 l G M)
  refine lk_cons (k := 53) (tgt := 218) (by decide) (by decide) ?_ ?_
  · refine s_iload_n 1 dX10_joined_218 rfl rfl ?_
    refine s_ifne (tgt := 226) dX10_joined_219 (by decide) ?_ ?_
    · exact s_sub [] rfl (tX10_joined_B226 l G M)
    · refine s_iload_n 2 dX10_joined_222 rfl rfl ?_
      refine s_ifeq (tgt := 230) dX10_joined_223 (by decide) ?_ ?_
      · refine s_iconst (v := 0) dX10_joined_230 ci_0 ?_
        exact s_sub [] rfl (tX10_joined_B231 l G (0 : Int32) M)
      · exact s_sub [] rfl (tX10_joined_B226 l G M)
  refine lk_cons (k := 54) (tgt := 218) (by decide) (by decide) ?_ ?_
  · refine s_iload_n 1 dX10_joined_218 rfl rfl ?_
    refine s_ifne (tgt := 226) dX10_joined_219 (by decide) ?_ ?_
    · exact s_sub [] rfl (tX10_joined_B226 l G M)
    · refine s_iload_n 2 dX10_joined_222 rfl rfl ?_
      refine s_ifeq (tgt := 230) dX10_joined_223 (by decide) ?_ ?_
      · refine s_iconst (v := 0) dX10_joined_230 ci_0 ?_
        exact s_sub [] rfl (tX10_joined_B231 l G (0 : Int32) M)
      · exact s_sub [] rfl (tX10_joined_B226 l G M)
  refine lk_cons (k := 55) (tgt := 218) (by decide) (by decide) ?_ ?_
  · refine s_iload_n 1 dX10_joined_218 rfl rfl ?_
    refine s_ifne (tgt := 226) dX10_joined_219 (by decide) ?_ ?_
    · exact s_sub [] rfl (tX10_joined_B226 l G M)
    · refine s_iload_n 2 dX10_joined_222 rfl rfl ?_
      refine s_ifeq (tgt := 230) dX10_joined_223 (by decide) ?_ ?_
      · refine s_iconst (v := 0) dX10_joined_230 ci_0 ?_
        exact s_sub [] rfl (tX10_joined_B231 l G (0 : Int32) M)
      · exact s_sub [] rfl (tX10_joined_B226 l G M)
  refine lk_cons (k := 56) (tgt := 218) (by decide) (by decide) ?_ ?_
  · refine s_iload_n 1 dX10_joined_218 rfl rfl ?_
    refine s_ifne (tgt := 226) dX10_joined_219 (by decide) ?_ ?_
    · exact s_sub [] rfl (tX10_joined_B226 l G M)
    · refine s_iload_n 2 dX10_joined_222 rfl rfl ?_
      refine s_ifeq (tgt := 230) dX10_joined_223 (by decide) ?_ ?_
      · refine s_iconst (v := 0) dX10_joined_230 ci_0 ?_
        exact s_sub [] rfl (tX10_joined_B231 l G (0 : Int32) M)
      · exact s_sub [] rfl (tX10_joined_B226 l G M)
  refine lk_cons (k := 57) (tgt := 218) (by decide) (by decide) ?_ ?_
  · refine s_iload_n 1 dX10_joined_218 rfl rfl ?_
    refine s_ifne (tgt := 226) dX10_joined_219 (by decide) ?_ ?_
    · exact s_sub [] rfl (tX10_joined_B226 l G M)
    · refine s_iload_n 2 dX10_joined_222 rfl rfl ?_
      refine s_ifeq (tgt := 230) dX10_joined_223 (by decide) ?_ ?_
      · refine s_iconst (v := 0) dX10_joined_230 ci_0 ?_
        exact s_sub [] rfl (tX10_joined_B231 l G (0 : Int32) M)
      · exact s_sub [] rfl (tX10_joined_B226 l G M)
  refine lk_cons (k := 58) (tgt := 218) (by decide) (by decide) ?_ ?_
  · refine s_iload_n 1 dX10_joined_218 rfl rfl ?_
    refine s_ifne (tgt := 226) dX10_joined_219 (by decide) ?_ ?_
    · exact s_sub [] rfl (tX10_joined_B226 l G M)
    · refine s_iload_n 2 dX10_joined_222 rfl rfl ?_
      refine s_ifeq (tgt := 230) dX10_joined_223 (by decide) ?_ ?_
      · refine s_iconst (v := 0) dX10_joined_230 ci_0 ?_
        exact s_sub [] rfl (tX10_joined_B231 l G (0 : Int32) M)
      · exact s_sub [] rfl (tX10_joined_B226 l G M)
  refine lk_cons (k := 59) (tgt := 218) (by decide) (by decide) ?_ ?_
  · refine s_iload_n 1 dX10_joined_218 rfl rfl ?_
    refine s_ifne (tgt := 226) dX10_joined_219 (by decide) ?_ ?_
    · exact s_sub [] rfl (tX10_joined_B226 l G M)
    · refine s_iload_n 2 dX10_joined_222 rfl rfl ?_
      refine s_ifeq (tgt := 230) dX10_joined_223 (by decide) ?_ ?_
      · refine s_iconst (v := 0) dX10_joined_230 ci_0 ?_
        exact s_sub [] rfl (tX10_joined_B231 l G (0 : Int32) M)
      · exact s_sub [] rfl (tX10_joined_B226 l G M)
  refine lk_cons (k := 60) (tgt := 171) (by decide) (by decide) ?_ ?_
  · refine s_iload_n 1 dX10_joined_171 rfl rfl ?_
    refine s_iload_n 2 dX10_joined_172 rfl rfl ?_
    refine s_icmpge (tgt := 180) dX10_joined_173 (by decide) ?_ ?_
    · refine s_iconst (v := 0) dX10_joined_180 ci_0 ?_
      exact s_sub [] rfl (tX10_joined_B181 l G (0 : Int32) M)
    · refine s_iconst (v := 1) dX10_joined_176 ci_1 ?_
      refine s_goto (tgt := 181) dX10_joined_177 (by decide) ?_
      exact s_sub [] rfl (tX10_joined_B181 l G (1 : Int32) M)
  refine lk_cons (k := 61) (tgt := 193) (by decide) (by decide) ?_ ?_
  · refine s_iload_n 1 dX10_joined_193 rfl rfl ?_
    refine s_iload_n 2 dX10_joined_194 rfl rfl ?_
    refine s_icmpne (tgt := 202) dX10_joined_195 (by decide) ?_ ?_
    · refine s_iconst (v := 0) dX10_joined_202 ci_0 ?_
      exact s_sub [] rfl (tX10_joined_B203 l G (0 : Int32) M)
    · refine s_iconst (v := 1) dX10_joined_198 ci_1 ?_
      refine s_goto (tgt := 203) dX10_joined_199 (by decide) ?_
      exact s_sub [] rfl (tX10_joined_B203 l G (1 : Int32) M)
  refine lk_cons (k := 62) (tgt := 182) (by decide) (by decide) ?_ ?_
  · refine s_iload_n 1 dX10_joined_182 rfl rfl ?_
    refine s_iload_n 2 dX10_joined_183 rfl rfl ?_
    refine s_icmple (tgt := 191) dX10_joined_184 (by decide) ?_ ?_
    · refine s_iconst (v := 0) dX10_joined_191 ci_0 ?_
      exact s_sub [] rfl (tX10_joined_B192 l G (0 : Int32) M)
    · refine s_iconst (v := 1) dX10_joined_187 ci_1 ?_
      refine s_goto (tgt := 192) dX10_joined_188 (by decide) ?_
      exact s_sub [] rfl (tX10_joined_B192 l G (1 : Int32) M)
  refine lk_nil (tgt := 218) (by decide) ?_
  refine s_iload_n 1 dX10_joined_218 rfl rfl ?_
  refine s_ifne (tgt := 226) dX10_joined_219 (by decide) ?_ ?_
  · exact s_sub [] rfl (tX10_joined_B226 l G M)
  · refine s_iload_n 2 dX10_joined_222 rfl rfl ?_
    refine s_ifeq (tgt := 230) dX10_joined_223 (by decide) ?_ ?_
    · refine s_iconst (v := 0) dX10_joined_230 ci_0 ?_
      exact s_sub [] rfl (tX10_joined_B231 l G (0 : Int32) M)
    · exact s_sub [] rfl (tX10_joined_B226 l G M)
theorem dX10_worked_0 : decode cX10_worked 0 = .ok (.sipush 292, 3) := by decide +kernel
theorem dX10_worked_3 : decode cX10_worked 3 = .ok (.bipush 125, 2) := by decide +kernel
theorem dX10_worked_5 : decode cX10_worked 5 = .ok (.iload_n 1, 1) := by decide +kernel
theorem dX10_worked_6 : decode cX10_worked 6 = .ok (.imul, 1) := by decide +kernel
theorem dX10_worked_7 : decode cX10_worked 7 = .ok (.iadd, 1) := by decide +kernel
theorem dX10_worked_8 : decode cX10_worked 8 = .ok (.istore_n 2, 1) := by decide +kernel
theorem dX10_worked_9 : decode cX10_worked 9 = .ok (.iconst 0, 1) := by decide +kernel
theorem dX10_worked_10 : decode cX10_worked 10 = .ok (.istore_n 3, 1) := by decide +kernel
theorem dX10_worked_11 : decode cX10_worked 11 = .ok (.iconst 0, 1) := by decide +kernel
theorem dX10_worked_12 : decode cX10_worked 12 = .ok (.istore 4, 2) := by decide +kernel
theorem dX10_worked_14 : decode cX10_worked 14 = .ok (.iload 4, 2) := by decide +kernel
theorem dX10_worked_16 : decode cX10_worked 16 = .ok (.aload_n 0, 1) := by decide +kernel
theorem dX10_worked_17 : decode cX10_worked 17 = .ok (.getfield 7, 3) := by decide +kernel
theorem dX10_worked_20 : decode cX10_worked 20 = .ok (.iload_n 2, 1) := by decide +kernel
theorem dX10_worked_21 : decode cX10_worked 21 = .ok (.iaload, 1) := by decide +kernel
theorem dX10_worked_22 : decode cX10_worked 22 = .ok (.if_icmp .ge 142, 3) := by decide +kernel
theorem dX10_worked_25 : decode cX10_worked 25 = .ok (.aload_n 0, 1) := by decide +kernel
theorem dX10_worked_26 : decode cX10_worked 26 = .ok (.getfield 7, 3) := by decide +kernel
theorem dX10_worked_29 : decode cX10_worked 29 = .ok (.iload_n 2, 1) := by decide +kernel
theorem dX10_worked_30 : decode cX10_worked 30 = .ok (.iconst 1, 1) := by decide +kernel
theorem dX10_worked_31 : decode cX10_worked 31 = .ok (.iadd, 1) := by decide +kernel
theorem dX10_worked_32 : decode cX10_worked 32 = .ok (.iconst 2, 1) := by decide +kernel
theorem dX10_worked_33 : decode cX10_worked 33 = .ok (.iload 4, 2) := by decide +kernel
theorem dX10_worked_35 : decode cX10_worked 35 = .ok (.imul, 1) := by decide +kernel
theorem dX10_worked_36 : decode cX10_worked 36 = .ok (.iadd, 1) := by decide +kernel
theorem dX10_worked_37 : decode cX10_worked 37 = .ok (.iaload, 1) := by decide +kernel
theorem dX10_worked_38 : decode cX10_worked 38 = .ok (.istore 5, 2) := by decide +kernel
theorem dX10_worked_40 : decode cX10_worked 40 = .ok (.aload_n 0, 1) := by decide +kernel
theorem dX10_worked_41 : decode cX10_worked 41 = .ok (.getfield 7, 3) := by decide +kernel
theorem dX10_worked_44 : decode cX10_worked 44 = .ok (.iload_n 2, 1) := by decide +kernel
theorem dX10_worked_45 : decode cX10_worked 45 = .ok (.iconst 2, 1) := by decide +kernel
theorem dX10_worked_46 : decode cX10_worked 46 = .ok (.iadd, 1) := by decide +kernel
theorem dX10_worked_47 : decode cX10_worked 47 = .ok (.iconst 2, 1) := by decide +kernel
theorem dX10_worked_48 : decode cX10_worked 48 = .ok (.iload 4, 2) := by decide +kernel
theorem dX10_worked_50 : decode cX10_worked 50 = .ok (.imul, 1) := by decide +kernel
theorem dX10_worked_51 : decode cX10_worked 51 = .ok (.iadd, 1) := by decide +kernel
theorem dX10_worked_52 : decode cX10_worked 52 = .ok (.iaload, 1) := by decide +kernel
theorem dX10_worked_53 : decode cX10_worked 53 = .ok (.istore 6, 2) := by decide +kernel
theorem dX10_worked_55 : decode cX10_worked 55 = .ok (.iload 5, 2) := by decide +kernel
theorem dX10_worked_57 : decode cX10_worked 57 = .ok (.ifCond .eq 9, 3) := by decide +kernel
theorem dX10_worked_60 : decode cX10_worked 60 = .ok (.iload 5, 2) := by decide +kernel
theorem dX10_worked_62 : decode cX10_worked 62 = .ok (.iconst 1, 1) := by decide +kernel
theorem dX10_worked_63 : decode cX10_worked 63 = .ok (.if_icmp .ne 32, 3) := by decide +kernel
theorem dX10_worked_66 : decode cX10_worked 66 = .ok (.aload_n 0, 1) := by decide +kernel
theorem dX10_worked_67 : decode cX10_worked 67 = .ok (.getfield 28, 3) := by decide +kernel
theorem dX10_worked_70 : decode cX10_worked 70 = .ok (.iload_n 3, 1) := by decide +kernel
theorem dX10_worked_71 : decode cX10_worked 71 = .ok (.iload 5, 2) := by decide +kernel
theorem dX10_worked_73 : decode cX10_worked 73 = .ok (.ifCond .ne 8, 3) := by decide +kernel
theorem dX10_worked_76 : decode cX10_worked 76 = .ok (.iload 6, 2) := by decide +kernel
theorem dX10_worked_78 : decode cX10_worked 78 = .ok (.goto 10, 3) := by decide +kernel
theorem dX10_worked_81 : decode cX10_worked 81 = .ok (.aload_n 0, 1) := by decide +kernel
theorem dX10_worked_82 : decode cX10_worked 82 = .ok (.getfield 25, 3) := by decide +kernel
theorem dX10_worked_85 : decode cX10_worked 85 = .ok (.iload 6, 2) := by decide +kernel
theorem dX10_worked_87 : decode cX10_worked 87 = .ok (.iaload, 1) := by decide +kernel
theorem dX10_worked_88 : decode cX10_worked 88 = .ok (.iastore, 1) := by decide +kernel
theorem dX10_worked_89 : decode cX10_worked 89 = .ok (.iinc 3 1, 3) := by decide +kernel
theorem dX10_worked_92 : decode cX10_worked 92 = .ok (.goto 66, 3) := by decide +kernel
theorem dX10_worked_95 : decode cX10_worked 95 = .ok (.iload 5, 2) := by decide +kernel
theorem dX10_worked_97 : decode cX10_worked 97 = .ok (.iconst 2, 1) := by decide +kernel
theorem dX10_worked_98 : decode cX10_worked 98 = .ok (.if_icmp .ne 30, 3) := by decide +kernel
theorem dX10_worked_101 : decode cX10_worked 101 = .ok (.aload_n 0, 1) := by decide +kernel
theorem dX10_worked_102 : decode cX10_worked 102 = .ok (.getfield 28, 3) := by decide +kernel
theorem dX10_worked_105 : decode cX10_worked 105 = .ok (.iload_n 3, 1) := by decide +kernel
theorem dX10_worked_106 : decode cX10_worked 106 = .ok (.iconst 1, 1) := by decide +kernel
theorem dX10_worked_107 : decode cX10_worked 107 = .ok (.isub, 1) := by decide +kernel
theorem dX10_worked_108 : decode cX10_worked 108 = .ok (.aload_n 0, 1) := by decide +kernel
theorem dX10_worked_109 : decode cX10_worked 109 = .ok (.getfield 28, 3) := by decide +kernel
theorem dX10_worked_112 : decode cX10_worked 112 = .ok (.iload_n 3, 1) := by decide +kernel
theorem dX10_worked_113 : decode cX10_worked 113 = .ok (.iconst 1, 1) := by decide +kernel
theorem dX10_worked_114 : decode cX10_worked 114 = .ok (.isub, 1) := by decide +kernel
theorem dX10_worked_115 : decode cX10_worked 115 = .ok (.iaload, 1) := by decide +kernel
theorem dX10_worked_116 : decode cX10_worked 116 = .ok (.ifCond .ne 7, 3) := by decide +kernel
theorem dX10_worked_119 : decode cX10_worked 119 = .ok (.iconst 1, 1) := by decide +kernel
theorem dX10_worked_120 : decode cX10_worked 120 = .ok (.goto 4, 3) := by decide +kernel
theorem dX10_worked_123 : decode cX10_worked 123 = .ok (.iconst 0, 1) := by decide +kernel
theorem dX10_worked_124 : decode cX10_worked 124 = .ok (.iastore, 1) := by decide +kernel
theorem dX10_worked_125 : decode cX10_worked 125 = .ok (.goto 33, 3) := by decide +kernel
theorem dX10_worked_128 : decode cX10_worked 128 = .ok (.iinc 3 (-1), 3) := by decide +kernel
theorem dX10_worked_131 : decode cX10_worked 131 = .ok (.aload_n 0, 1) := by decide +kernel
theorem dX10_worked_132 : decode cX10_worked 132 = .ok (.getfield 28, 3) := by decide +kernel
theorem dX10_worked_135 : decode cX10_worked 135 = .ok (.iload_n 3, 1) := by decide +kernel
theorem dX10_worked_136 : decode cX10_worked 136 = .ok (.iconst 1, 1) := by decide +kernel
theorem dX10_worked_137 : decode cX10_worked 137 = .ok (.isub, 1) := by decide +kernel
theorem dX10_worked_138 : decode cX10_worked 138 = .ok (.iload 6, 2) := by decide +kernel
theorem dX10_worked_140 : decode cX10_worked 140 = .ok (.aload_n 0, 1) := by decide +kernel
theorem dX10_worked_141 : decode cX10_worked 141 = .ok (.getfield 28, 3) := by decide +kernel
theorem dX10_worked_144 : decode cX10_worked 144 = .ok (.iload_n 3, 1) := by decide +kernel
theorem dX10_worked_145 : decode cX10_worked 145 = .ok (.iconst 1, 1) := by decide +kernel
theorem dX10_worked_146 : decode cX10_worked 146 = .ok (.isub, 1) := by decide +kernel
theorem dX10_worked_147 : decode cX10_worked 147 = .ok (.iaload, 1) := by decide +kernel
theorem dX10_worked_148 : decode cX10_worked 148 = .ok (.aload_n 0, 1) := by decide +kernel
theorem dX10_worked_149 : decode cX10_worked 149 = .ok (.getfield 28, 3) := by decide +kernel
theorem dX10_worked_152 : decode cX10_worked 152 = .ok (.iload_n 3, 1) := by decide +kernel
theorem dX10_worked_153 : decode cX10_worked 153 = .ok (.iaload, 1) := by decide +kernel
theorem dX10_worked_154 : decode cX10_worked 154 = .ok (.invokestatic 134, 3) := by decide +kernel
theorem dX10_worked_157 : decode cX10_worked 157 = .ok (.iastore, 1) := by decide +kernel
theorem dX10_worked_158 : decode cX10_worked 158 = .ok (.iinc 4 1, 3) := by decide +kernel
theorem dX10_worked_161 : decode cX10_worked 161 = .ok (.goto (-147), 3) := by decide +kernel
theorem dX10_worked_164 : decode cX10_worked 164 = .ok (.aload_n 0, 1) := by decide +kernel
theorem dX10_worked_165 : decode cX10_worked 165 = .ok (.getfield 28, 3) := by decide +kernel
theorem dX10_worked_168 : decode cX10_worked 168 = .ok (.iconst 0, 1) := by decide +kernel
theorem dX10_worked_169 : decode cX10_worked 169 = .ok (.iaload, 1) := by decide +kernel
theorem dX10_worked_170 : decode cX10_worked 170 = .ok (.ireturn, 1) := by decide +kernel
def fX10_worked_B164 (M : Mm) : Option (Int32 × Mm) :=
  some (M 7 (ix (0 : Int32)), M)
theorem tX10_worked_B164 (l : Launch) (G : Gx) (M : Mm) : Sim cQi l layM G 2 cX10_worked RX10 7 (some .int) 164 [(0, rf G 0)] [] M (fX10_worked_B164 M) := by
  unfold fX10_worked_B164
  refine s_aload_n 0 dX10_worked_164 rfl rfl ?_
  refine g_X10_28 (q := 7) rfl rfl dX10_worked_165 ?_
  refine s_iconst (v := 0) dX10_worked_168 ci_0 ?_
  refine s_iald (n := 64) rfl (by decide) dX10_worked_169 ?_
  exact s_iret rfl dX10_worked_170
def fX10_worked_B158 (q14 : Int32 → Int32 → Mm → Option (Int32 × Mm)) (v3 : Int32) (v4 : Int32) (v2 : Int32) (M : Mm) : Option (Int32 × Mm) :=
  q14 (v4 + 1) v3 M
theorem tX10_worked_B158 (l : Launch) (G : Gx) (v3 : Int32) (v4 : Int32) (v2 : Int32) (q14 : Int32 → Int32 → Mm → Option (Int32 × Mm)) (hq14 : ∀ (v4 : Int32) (v3 : Int32) (M : Mm), Sim cQi l layM G 2 cX10_worked RX10 7 (some .int) 14 [(4, .int v4), (3, .int v3), (2, .int v2), (0, rf G 0)] [] M (q14 v4 v3 M)) (M : Mm) : Sim cQi l layM G 2 cX10_worked RX10 7 (some .int) 158 [(3, .int v3), (4, .int v4), (2, .int v2), (0, rf G 0)] [] M (fX10_worked_B158 q14 v3 v4 v2 M) := by
  unfold fX10_worked_B158
  refine s_iinc (k := 1) (lv' := [(4, .int (v4 + 1)), (3, .int v3), (2, .int v2), (0, rf G 0)]) dX10_worked_158 rfl ci_1 rfl rfl ?_
  refine s_goto (tgt := 14) dX10_worked_161 (by decide) ?_
  exact s_sub [0, 1, 2, 3] rfl (hq14 (v4 + 1) v3 M)
def fX10_worked_B88 (q14 : Int32 → Int32 → Mm → Option (Int32 × Mm)) (v4 : Int32) (v3 : Int32) (v2 : Int32) (w0 : Int32) (w1 : Int32) (M : Mm) : Option (Int32 × Mm) :=
  gd (inb w1 64) <|
  lt (wr M 7 (ix w1) w0) fun M9 =>
  fX10_worked_B158 q14 (v3 + 1) v4 v2 M9
theorem tX10_worked_B88 (l : Launch) (G : Gx) (v4 : Int32) (v3 : Int32) (v2 : Int32) (w0 : Int32) (w1 : Int32) (q14 : Int32 → Int32 → Mm → Option (Int32 × Mm)) (hq14 : ∀ (v4 : Int32) (v3 : Int32) (M : Mm), Sim cQi l layM G 2 cX10_worked RX10 7 (some .int) 14 [(4, .int v4), (3, .int v3), (2, .int v2), (0, rf G 0)] [] M (q14 v4 v3 M)) (M : Mm) : Sim cQi l layM G 2 cX10_worked RX10 7 (some .int) 88 [(4, .int v4), (3, .int v3), (2, .int v2), (0, rf G 0)] [.int w0, .int w1, rf G 7] M (fX10_worked_B88 q14 v4 v3 v2 w0 w1 M) := by
  unfold fX10_worked_B88
  refine s_gd fun h8 => ?_
  refine s_iast (n := 64) rfl h8 dX10_worked_88 ?_
  refine s_letM fun M9 => ?_
  refine s_iinc (k := 1) (lv' := [(3, .int (v3 + 1)), (4, .int v4), (2, .int v2), (0, rf G 0)]) dX10_worked_89 rfl ci_1 rfl rfl ?_
  refine s_goto (tgt := 158) dX10_worked_92 (by decide) ?_
  exact s_sub [0, 1, 2, 3] rfl (tX10_worked_B158 l G (v3 + 1) v4 v2 q14 hq14 M9)
def fX10_worked_B66 (q14 : Int32 → Int32 → Mm → Option (Int32 × Mm)) (v6 : Int32) (v5 : Int32) (v4 : Int32) (v3 : Int32) (v2 : Int32) (M : Mm) : Option (Int32 × Mm) :=
  if v5 = 0 then (fX10_worked_B88 q14 v4 v3 v2 v6 v3 M)
  else gd (inb v6 128) <|
  fX10_worked_B88 q14 v4 v3 v2 (M 6 (ix v6)) v3 M
theorem tX10_worked_B66 (l : Launch) (G : Gx) (v6 : Int32) (v5 : Int32) (v4 : Int32) (v3 : Int32) (v2 : Int32) (q14 : Int32 → Int32 → Mm → Option (Int32 × Mm)) (hq14 : ∀ (v4 : Int32) (v3 : Int32) (M : Mm), Sim cQi l layM G 2 cX10_worked RX10 7 (some .int) 14 [(4, .int v4), (3, .int v3), (2, .int v2), (0, rf G 0)] [] M (q14 v4 v3 M)) (M : Mm) : Sim cQi l layM G 2 cX10_worked RX10 7 (some .int) 66 [(6, .int v6), (5, .int v5), (4, .int v4), (3, .int v3), (2, .int v2), (0, rf G 0)] [] M (fX10_worked_B66 q14 v6 v5 v4 v3 v2 M) := by
  unfold fX10_worked_B66
  refine s_aload_n 5 dX10_worked_66 rfl rfl ?_
  refine g_X10_28 (q := 7) rfl rfl dX10_worked_67 ?_
  refine s_iload_n 3 dX10_worked_70 rfl rfl ?_
  refine s_iload 1 dX10_worked_71 rfl ?_
  refine s_ifne (tgt := 81) dX10_worked_73 (by decide) ?_ ?_
  · refine s_aload_n 5 dX10_worked_81 rfl rfl ?_
    refine g_X10_25 (q := 6) rfl rfl dX10_worked_82 ?_
    refine s_iload 0 dX10_worked_85 rfl ?_
    refine s_gd fun h7 => ?_
    refine s_iald (n := 128) rfl h7 dX10_worked_87 ?_
    exact s_sub [2, 3, 4, 5] rfl (tX10_worked_B88 l G v4 v3 v2 (M 6 (ix v6)) v3 q14 hq14 M)
  · refine s_iload 0 dX10_worked_76 rfl ?_
    refine s_goto (tgt := 88) dX10_worked_78 (by decide) ?_
    exact s_sub [2, 3, 4, 5] rfl (tX10_worked_B88 l G v4 v3 v2 v6 v3 q14 hq14 M)
def fX10_worked_B124 (q14 : Int32 → Int32 → Mm → Option (Int32 × Mm)) (v4 : Int32) (v3 : Int32) (v2 : Int32) (w0 : Int32) (w1 : Int32) (M : Mm) : Option (Int32 × Mm) :=
  gd (inb w1 64) <|
  lt (wr M 7 (ix w1) w0) fun M17 =>
  fX10_worked_B158 q14 v3 v4 v2 M17
theorem tX10_worked_B124 (l : Launch) (G : Gx) (v4 : Int32) (v3 : Int32) (v2 : Int32) (w0 : Int32) (w1 : Int32) (q14 : Int32 → Int32 → Mm → Option (Int32 × Mm)) (hq14 : ∀ (v4 : Int32) (v3 : Int32) (M : Mm), Sim cQi l layM G 2 cX10_worked RX10 7 (some .int) 14 [(4, .int v4), (3, .int v3), (2, .int v2), (0, rf G 0)] [] M (q14 v4 v3 M)) (M : Mm) : Sim cQi l layM G 2 cX10_worked RX10 7 (some .int) 124 [(4, .int v4), (3, .int v3), (2, .int v2), (0, rf G 0)] [.int w0, .int w1, rf G 7] M (fX10_worked_B124 q14 v4 v3 v2 w0 w1 M) := by
  unfold fX10_worked_B124
  refine s_gd fun h16 => ?_
  refine s_iast (n := 64) rfl h16 dX10_worked_124 ?_
  refine s_letM fun M17 => ?_
  refine s_goto (tgt := 158) dX10_worked_125 (by decide) ?_
  exact s_sub [1, 0, 2, 3] rfl (tX10_worked_B158 l G v3 v4 v2 q14 hq14 M17)
def fX10_worked_L14b (v2 : Int32) (q14 : Int32 → Int32 → Mm → Option (Int32 × Mm)) (v4 : Int32) (v3 : Int32) (M : Mm) : Option (Int32 × Mm) :=
  gd (inb v2 626) <|
  if (M 1 (ix v2)) ≤ v4 then (fX10_worked_B164 M)
  else gd (inb ((v2 + (1 : Int32)) + ((2 : Int32) * v4)) 626) <|
  lt (M 1 (ix ((v2 + (1 : Int32)) + ((2 : Int32) * v4)))) fun x4 =>
  gd (inb ((v2 + (2 : Int32)) + ((2 : Int32) * v4)) 626) <|
  lt (M 1 (ix ((v2 + (2 : Int32)) + ((2 : Int32) * v4)))) fun x6 =>
  if x4 = 0 then (fX10_worked_B66 q14 x6 x4 v4 v3 v2 M)
  else if x4 = (1 : Int32) then (fX10_worked_B66 q14 x6 x4 v4 v3 v2 M)
  else if x4 = (2 : Int32) then (gd (inb (v3 - (1 : Int32)) 64) <|
  if (M 7 (ix (v3 - (1 : Int32)))) = 0 then (fX10_worked_B124 q14 v4 v3 v2 (1 : Int32) (v3 - (1 : Int32)) M)
  else fX10_worked_B124 q14 v4 v3 v2 (0 : Int32) (v3 - (1 : Int32)) M)
  else gd (inb ((v3 + (-1)) - (1 : Int32)) 64) <|
  gd (inb (v3 + (-1)) 64) <|
  bd (fX10_joined x6 (M 7 (ix ((v3 + (-1)) - (1 : Int32)))) (M 7 (ix (v3 + (-1)))) M) fun r12 M13 =>
  lt (wr M13 7 (ix ((v3 + (-1)) - (1 : Int32))) r12) fun M14 =>
  fX10_worked_B158 q14 (v3 + (-1)) v4 v2 M14
def fX10_worked_L14 (v2 : Int32) : Nat → Int32 → Int32 → Mm → Option (Int32 × Mm)
  | 0 => fun _ _ _ => none
  | n + 1 => fX10_worked_L14b v2 (fX10_worked_L14 v2 n)
theorem tX10_worked_L14b (l : Launch) (G : Gx) (v2 : Int32) (q14 : Int32 → Int32 → Mm → Option (Int32 × Mm)) (hq14 : ∀ (v4 : Int32) (v3 : Int32) (M : Mm), Sim cQi l layM G 2 cX10_worked RX10 7 (some .int) 14 [(4, .int v4), (3, .int v3), (2, .int v2), (0, rf G 0)] [] M (q14 v4 v3 M)) (v4 : Int32) (v3 : Int32) (M : Mm) : Sim cQi l layM G 2 cX10_worked RX10 7 (some .int) 14 [(4, .int v4), (3, .int v3), (2, .int v2), (0, rf G 0)] [] M (fX10_worked_L14b v2 q14 v4 v3 M) := by
  unfold fX10_worked_L14b
  refine s_iload 0 dX10_worked_14 rfl ?_
  refine s_aload_n 3 dX10_worked_16 rfl rfl ?_
  refine g_X10_7 (q := 1) rfl rfl dX10_worked_17 ?_
  refine s_iload_n 2 dX10_worked_20 rfl rfl ?_
  refine s_gd fun h2 => ?_
  refine s_iald (n := 626) rfl h2 dX10_worked_21 ?_
  refine s_icmpge (tgt := 164) dX10_worked_22 (by decide) ?_ ?_
  · exact s_sub [3] rfl (tX10_worked_B164 l G M)
  · refine s_aload_n 3 dX10_worked_25 rfl rfl ?_
    refine g_X10_7 (q := 1) rfl rfl dX10_worked_26 ?_
    refine s_iload_n 2 dX10_worked_29 rfl rfl ?_
    refine s_iconst (v := 1) dX10_worked_30 ci_1 ?_
    refine s_iadd dX10_worked_31 ?_
    refine s_iconst (v := 2) dX10_worked_32 ci_2 ?_
    refine s_iload 0 dX10_worked_33 rfl ?_
    refine s_imul dX10_worked_35 ?_
    refine s_iadd dX10_worked_36 ?_
    refine s_gd fun h3 => ?_
    refine s_iald (n := 626) rfl h3 dX10_worked_37 ?_
    refine s_leti fun x4 => ?_
    refine s_istore (lv' := [(5, .int x4), (4, .int v4), (3, .int v3), (2, .int v2), (0, rf G 0)]) dX10_worked_38 rfl rfl ?_
    refine s_aload_n 4 dX10_worked_40 rfl rfl ?_
    refine g_X10_7 (q := 1) rfl rfl dX10_worked_41 ?_
    refine s_iload_n 3 dX10_worked_44 rfl rfl ?_
    refine s_iconst (v := 2) dX10_worked_45 ci_2 ?_
    refine s_iadd dX10_worked_46 ?_
    refine s_iconst (v := 2) dX10_worked_47 ci_2 ?_
    refine s_iload 1 dX10_worked_48 rfl ?_
    refine s_imul dX10_worked_50 ?_
    refine s_iadd dX10_worked_51 ?_
    refine s_gd fun h5 => ?_
    refine s_iald (n := 626) rfl h5 dX10_worked_52 ?_
    refine s_leti fun x6 => ?_
    refine s_istore (lv' := [(6, .int x6), (5, .int x4), (4, .int v4), (3, .int v3), (2, .int v2), (0, rf G 0)]) dX10_worked_53 rfl rfl ?_
    refine s_iload 1 dX10_worked_55 rfl ?_
    refine s_ifeq (tgt := 66) dX10_worked_57 (by decide) ?_ ?_
    · exact s_sub [0, 1, 2, 3, 4, 5] rfl (tX10_worked_B66 l G x6 x4 v4 v3 v2 q14 hq14 M)
    · refine s_iload 1 dX10_worked_60 rfl ?_
      refine s_iconst (v := 1) dX10_worked_62 ci_1 ?_
      refine s_icmpne (tgt := 95) dX10_worked_63 (by decide) ?_ ?_
      · refine s_iload 1 dX10_worked_95 rfl ?_
        refine s_iconst (v := 2) dX10_worked_97 ci_2 ?_
        refine s_icmpne (tgt := 128) dX10_worked_98 (by decide) ?_ ?_
        · refine s_iinc (k := 3) (lv' := [(3, .int (v3 + (-1))), (6, .int x6), (5, .int x4), (4, .int v4), (2, .int v2), (0, rf G 0)]) dX10_worked_128 rfl ci_m1 rfl rfl ?_
          refine s_aload_n 5 dX10_worked_131 rfl rfl ?_
          refine g_X10_28 (q := 7) rfl rfl dX10_worked_132 ?_
          refine s_iload_n 0 dX10_worked_135 rfl rfl ?_
          refine s_iconst (v := 1) dX10_worked_136 ci_1 ?_
          refine s_isub dX10_worked_137 ?_
          refine s_iload 1 dX10_worked_138 rfl ?_
          refine s_aload_n 5 dX10_worked_140 rfl rfl ?_
          refine g_X10_28 (q := 7) rfl rfl dX10_worked_141 ?_
          refine s_iload_n 0 dX10_worked_144 rfl rfl ?_
          refine s_iconst (v := 1) dX10_worked_145 ci_1 ?_
          refine s_isub dX10_worked_146 ?_
          refine s_gd fun h10 => ?_
          refine s_iald (n := 64) rfl h10 dX10_worked_147 ?_
          refine s_aload_n 5 dX10_worked_148 rfl rfl ?_
          refine g_X10_28 (q := 7) rfl rfl dX10_worked_149 ?_
          refine s_iload_n 0 dX10_worked_152 rfl rfl ?_
          refine s_gd fun h11 => ?_
          refine s_iald (n := 64) rfl h11 dX10_worked_153 ?_
          refine s_call_i (s_runS (rest := [.int ((v3 + (-1)) - (1 : Int32)), rf G 7]) (mX10_joined l G x6 (M 7 (ix ((v3 + (-1)) - (1 : Int32)))) (M 7 (ix (v3 + (-1)))) M) ok_X10_joined k_X10_134 rfl rfl rfl rfl dX10_worked_154) fun r12 M13 => ?_
          refine s_iast (n := 64) rfl h10 dX10_worked_157 ?_
          refine s_letM fun M14 => ?_
          exact s_sub [0, 3, 4, 5] rfl (tX10_worked_B158 l G (v3 + (-1)) v4 v2 q14 hq14 M14)
        · refine s_aload_n 5 dX10_worked_101 rfl rfl ?_
          refine g_X10_28 (q := 7) rfl rfl dX10_worked_102 ?_
          refine s_iload_n 3 dX10_worked_105 rfl rfl ?_
          refine s_iconst (v := 1) dX10_worked_106 ci_1 ?_
          refine s_isub dX10_worked_107 ?_
          refine s_aload_n 5 dX10_worked_108 rfl rfl ?_
          refine g_X10_28 (q := 7) rfl rfl dX10_worked_109 ?_
          refine s_iload_n 3 dX10_worked_112 rfl rfl ?_
          refine s_iconst (v := 1) dX10_worked_113 ci_1 ?_
          refine s_isub dX10_worked_114 ?_
          refine s_gd fun h15 => ?_
          refine s_iald (n := 64) rfl h15 dX10_worked_115 ?_
          refine s_ifne (tgt := 123) dX10_worked_116 (by decide) ?_ ?_
          · refine s_iconst (v := 0) dX10_worked_123 ci_0 ?_
            exact s_sub [2, 3, 4, 5] rfl (tX10_worked_B124 l G v4 v3 v2 (0 : Int32) (v3 - (1 : Int32)) q14 hq14 M)
          · refine s_iconst (v := 1) dX10_worked_119 ci_1 ?_
            refine s_goto (tgt := 124) dX10_worked_120 (by decide) ?_
            exact s_sub [2, 3, 4, 5] rfl (tX10_worked_B124 l G v4 v3 v2 (1 : Int32) (v3 - (1 : Int32)) q14 hq14 M)
      · exact s_sub [0, 1, 2, 3, 4, 5] rfl (tX10_worked_B66 l G x6 x4 v4 v3 v2 q14 hq14 M)
theorem tX10_worked_L14 (l : Launch) (G : Gx) (v2 : Int32) : ∀ (n : Nat) (v4 : Int32) (v3 : Int32) (M : Mm), Sim cQi l layM G 2 cX10_worked RX10 7 (some .int) 14 [(4, .int v4), (3, .int v3), (2, .int v2), (0, rf G 0)] [] M (fX10_worked_L14 v2 n v4 v3 M)
  | 0, _, _, _ => s_none
  | n + 1, v4, v3, M => tX10_worked_L14b l G v2 _ (tX10_worked_L14 l G v2 n) v4 v3 M
def fX10_worked (a1 : Int32) (M : Mm) : Option (Int32 × Mm) :=
  lt ((292 : Int32) + ((125 : Int32) * a1)) fun x1 =>
  fX10_worked_L14 x1 FU (0 : Int32) (0 : Int32) M
theorem mX10_worked (l : Launch) (G : Gx) (a1 : Int32) (M : Mm) : Mt cQi l layM G 2 yX10_worked cX10_worked 7 (some .int) [rf G 0, .int a1] M (fX10_worked a1 M) := by
  refine Mt.of2 (own := RX10) (lv := [(0, rf G 0), (1, .int a1)]) rfl (by decide +kernel) rfl rfl ?_
  unfold fX10_worked
  refine s_sipush (v := 292) dX10_worked_0 cs_292 ?_
  refine s_bipush (v := 125) dX10_worked_3 cb_125 ?_
  refine s_iload_n 1 dX10_worked_5 rfl rfl ?_
  refine s_imul dX10_worked_6 ?_
  refine s_iadd dX10_worked_7 ?_
  refine s_leti fun x1 => ?_
  refine s_istore_n (lv' := [(2, .int x1), (0, rf G 0), (1, .int a1)]) dX10_worked_8 rfl rfl rfl ?_
  refine s_iconst (v := 0) dX10_worked_9 ci_0 ?_
  refine s_istore_n (lv' := [(3, .int (0 : Int32)), (2, .int x1), (0, rf G 0), (1, .int a1)]) dX10_worked_10 rfl rfl rfl ?_
  refine s_iconst (v := 0) dX10_worked_11 ci_0 ?_
  refine s_istore (lv' := [(4, .int (0 : Int32)), (3, .int (0 : Int32)), (2, .int x1), (0, rf G 0), (1, .int a1)]) dX10_worked_12 rfl rfl ?_
  exact s_sub [0, 1, 2, 3] rfl (tX10_worked_L14 l G x1 FU (0 : Int32) (0 : Int32) M)
theorem dX10_cold_0 : decode cX10_cold 0 = .ok (.aload_n 0, 1) := by decide +kernel
theorem dX10_cold_1 : decode cX10_cold 1 = .ok (.getfield 7, 3) := by decide +kernel
theorem dX10_cold_4 : decode cX10_cold 4 = .ok (.bipush 8, 2) := by decide +kernel
theorem dX10_cold_6 : decode cX10_cold 6 = .ok (.aload_n 0, 1) := by decide +kernel
theorem dX10_cold_7 : decode cX10_cold 7 = .ok (.iload_n 1, 1) := by decide +kernel
theorem dX10_cold_8 : decode cX10_cold 8 = .ok (.iconst 4, 1) := by decide +kernel
theorem dX10_cold_9 : decode cX10_cold 9 = .ok (.invokevirtual 137, 3) := by decide +kernel
theorem dX10_cold_12 : decode cX10_cold 12 = .ok (.iadd, 1) := by decide +kernel
theorem dX10_cold_13 : decode cX10_cold 13 = .ok (.iaload, 1) := by decide +kernel
theorem dX10_cold_14 : decode cX10_cold 14 = .ok (.ireturn, 1) := by decide +kernel
def fX10_cold (a1 : Int32) (M : Mm) : Option (Int32 × Mm) :=
  bd (fX10_its a1 (4 : Int32) M) fun r1 M2 =>
  gd (inb ((8 : Int32) + r1) 626) <|
  some (M2 1 (ix ((8 : Int32) + r1)), M2)
theorem mX10_cold (l : Launch) (G : Gx) (a1 : Int32) (M : Mm) : Mt cQi l layM G 2 yX10_cold cX10_cold 2 (some .int) [rf G 0, .int a1] M (fX10_cold a1 M) := by
  refine Mt.of2 (own := RX10) (lv := [(0, rf G 0), (1, .int a1)]) rfl (by decide +kernel) rfl rfl ?_
  unfold fX10_cold
  refine s_aload_n 0 dX10_cold_0 rfl rfl ?_
  refine g_X10_7 (q := 1) rfl rfl dX10_cold_1 ?_
  refine s_bipush (v := 8) dX10_cold_4 cb_8 ?_
  refine s_aload_n 0 dX10_cold_6 rfl rfl ?_
  refine s_iload_n 1 dX10_cold_7 rfl rfl ?_
  refine s_iconst (v := 4) dX10_cold_8 ci_4 ?_
  refine s_call_i (s_runV (ci := 10) (rest := [.int (8 : Int32), rf G 1]) rfl rfl (mX10_its l G a1 (4 : Int32) M) ok_X10_its k_X10_137 rfl rfl rfl rfl dX10_cold_9) fun r1 M2 => ?_
  refine s_iadd dX10_cold_12 ?_
  refine s_gd fun h3 => ?_
  refine s_iald (n := 626) rfl h3 dX10_cold_13 ?_
  exact s_iret rfl dX10_cold_14
theorem dX10_dripsTold_0 : decode cX10_dripsTold 0 = .ok (.aload_n 0, 1) := by decide +kernel
theorem dX10_dripsTold_1 : decode cX10_dripsTold 1 = .ok (.iconst 0, 1) := by decide +kernel
theorem dX10_dripsTold_2 : decode cX10_dripsTold 2 = .ok (.invokevirtual 131, 3) := by decide +kernel
theorem dX10_dripsTold_5 : decode cX10_dripsTold 5 = .ok (.ifCond .ne 11, 3) := by decide +kernel
theorem dX10_dripsTold_8 : decode cX10_dripsTold 8 = .ok (.iconst 3, 1) := by decide +kernel
theorem dX10_dripsTold_9 : decode cX10_dripsTold 9 = .ok (.aload_n 0, 1) := by decide +kernel
theorem dX10_dripsTold_10 : decode cX10_dripsTold 10 = .ok (.iload_n 1, 1) := by decide +kernel
theorem dX10_dripsTold_11 : decode cX10_dripsTold 11 = .ok (.invokevirtual 141, 3) := by decide +kernel
theorem dX10_dripsTold_14 : decode cX10_dripsTold 14 = .ok (.isub, 1) := by decide +kernel
theorem dX10_dripsTold_15 : decode cX10_dripsTold 15 = .ok (.ireturn, 1) := by decide +kernel
theorem dX10_dripsTold_16 : decode cX10_dripsTold 16 = .ok (.aload_n 0, 1) := by decide +kernel
theorem dX10_dripsTold_17 : decode cX10_dripsTold 17 = .ok (.getfield 25, 3) := by decide +kernel
theorem dX10_dripsTold_20 : decode cX10_dripsTold 20 = .ok (.bipush 105, 2) := by decide +kernel
theorem dX10_dripsTold_22 : decode cX10_dripsTold 22 = .ok (.aload_n 0, 1) := by decide +kernel
theorem dX10_dripsTold_23 : decode cX10_dripsTold 23 = .ok (.iload_n 1, 1) := by decide +kernel
theorem dX10_dripsTold_24 : decode cX10_dripsTold 24 = .ok (.iconst 3, 1) := by decide +kernel
theorem dX10_dripsTold_25 : decode cX10_dripsTold 25 = .ok (.invokevirtual 137, 3) := by decide +kernel
theorem dX10_dripsTold_28 : decode cX10_dripsTold 28 = .ok (.iastore, 1) := by decide +kernel
theorem dX10_dripsTold_29 : decode cX10_dripsTold 29 = .ok (.aload_n 0, 1) := by decide +kernel
theorem dX10_dripsTold_30 : decode cX10_dripsTold 30 = .ok (.getfield 25, 3) := by decide +kernel
theorem dX10_dripsTold_33 : decode cX10_dripsTold 33 = .ok (.bipush 99, 2) := by decide +kernel
theorem dX10_dripsTold_35 : decode cX10_dripsTold 35 = .ok (.aload_n 0, 1) := by decide +kernel
theorem dX10_dripsTold_36 : decode cX10_dripsTold 36 = .ok (.iload_n 1, 1) := by decide +kernel
theorem dX10_dripsTold_37 : decode cX10_dripsTold 37 = .ok (.invokevirtual 141, 3) := by decide +kernel
theorem dX10_dripsTold_40 : decode cX10_dripsTold 40 = .ok (.iastore, 1) := by decide +kernel
theorem dX10_dripsTold_41 : decode cX10_dripsTold 41 = .ok (.aload_n 0, 1) := by decide +kernel
theorem dX10_dripsTold_42 : decode cX10_dripsTold 42 = .ok (.getfield 25, 3) := by decide +kernel
theorem dX10_dripsTold_45 : decode cX10_dripsTold 45 = .ok (.bipush 97, 2) := by decide +kernel
theorem dX10_dripsTold_47 : decode cX10_dripsTold 47 = .ok (.aload_n 0, 1) := by decide +kernel
theorem dX10_dripsTold_48 : decode cX10_dripsTold 48 = .ok (.iload_n 1, 1) := by decide +kernel
theorem dX10_dripsTold_49 : decode cX10_dripsTold 49 = .ok (.bipush 6, 2) := by decide +kernel
theorem dX10_dripsTold_51 : decode cX10_dripsTold 51 = .ok (.invokevirtual 137, 3) := by decide +kernel
theorem dX10_dripsTold_54 : decode cX10_dripsTold 54 = .ok (.iastore, 1) := by decide +kernel
theorem dX10_dripsTold_55 : decode cX10_dripsTold 55 = .ok (.aload_n 0, 1) := by decide +kernel
theorem dX10_dripsTold_56 : decode cX10_dripsTold 56 = .ok (.getfield 25, 3) := by decide +kernel
theorem dX10_dripsTold_59 : decode cX10_dripsTold 59 = .ok (.bipush 109, 2) := by decide +kernel
theorem dX10_dripsTold_61 : decode cX10_dripsTold 61 = .ok (.aload_n 0, 1) := by decide +kernel
theorem dX10_dripsTold_62 : decode cX10_dripsTold 62 = .ok (.iload_n 1, 1) := by decide +kernel
theorem dX10_dripsTold_63 : decode cX10_dripsTold 63 = .ok (.iconst 1, 1) := by decide +kernel
theorem dX10_dripsTold_64 : decode cX10_dripsTold 64 = .ok (.invokevirtual 137, 3) := by decide +kernel
theorem dX10_dripsTold_67 : decode cX10_dripsTold 67 = .ok (.iastore, 1) := by decide +kernel
theorem dX10_dripsTold_68 : decode cX10_dripsTold 68 = .ok (.aload_n 0, 1) := by decide +kernel
theorem dX10_dripsTold_69 : decode cX10_dripsTold 69 = .ok (.iconst 0, 1) := by decide +kernel
theorem dX10_dripsTold_70 : decode cX10_dripsTold 70 = .ok (.invokevirtual 144, 3) := by decide +kernel
theorem dX10_dripsTold_73 : decode cX10_dripsTold 73 = .ok (.ireturn, 1) := by decide +kernel
def fX10_dripsTold (a1 : Int32) (M : Mm) : Option (Int32 × Mm) :=
  bd (fX10_hasText (0 : Int32) M) fun r1 M2 =>
  if r1 = true then (bd (fX10_its a1 (3 : Int32) M2) fun r5 M6 =>
  lt (wr M6 6 (ix (105 : Int32)) r5) fun M7 =>
  bd (fX10_cold a1 M7) fun r8 M9 =>
  lt (wr M9 6 (ix (99 : Int32)) r8) fun M10 =>
  bd (fX10_its a1 (6 : Int32) M10) fun r11 M12 =>
  lt (wr M12 6 (ix (97 : Int32)) r11) fun M13 =>
  bd (fX10_its a1 (1 : Int32) M13) fun r14 M15 =>
  lt (wr M15 6 (ix (109 : Int32)) r14) fun M16 =>
  bd (fX10_worked (0 : Int32) M16) fun r17 M18 =>
  some (r17, M18))
  else bd (fX10_cold a1 M2) fun r3 M4 =>
  some ((3 : Int32) - r3, M4)
theorem mX10_dripsTold (l : Launch) (G : Gx) (a1 : Int32) (M : Mm) : Mt cQi l layM G 3 yX10_dripsTold cX10_dripsTold 2 (some .int) [rf G 0, .int a1] M (fX10_dripsTold a1 M) := by
  refine Mt.of2 (own := RX10) (lv := [(0, rf G 0), (1, .int a1)]) rfl (by decide +kernel) rfl rfl ?_
  unfold fX10_dripsTold
  refine s_aload_n 0 dX10_dripsTold_0 rfl rfl ?_
  refine s_iconst (v := 0) dX10_dripsTold_1 ci_0 ?_
  refine s_call_z (s_runV (ci := 10) (rest := []) rfl rfl (mX10_hasText l G (0 : Int32) M) ok_X10_hasText k_X10_131 rfl rfl rfl rfl dX10_dripsTold_2) fun r1 M2 => ?_
  refine s_ifneB (tgt := 16) dX10_dripsTold_5 (by decide) ?_ ?_
  · refine s_aload_n 0 dX10_dripsTold_16 rfl rfl ?_
    refine g_X10_25 (q := 6) rfl rfl dX10_dripsTold_17 ?_
    refine s_bipush (v := 105) dX10_dripsTold_20 cb_105 ?_
    refine s_aload_n 0 dX10_dripsTold_22 rfl rfl ?_
    refine s_iload_n 1 dX10_dripsTold_23 rfl rfl ?_
    refine s_iconst (v := 3) dX10_dripsTold_24 ci_3 ?_
    refine s_call_i (s_runV (ci := 10) (rest := [.int (105 : Int32), rf G 6]) rfl rfl (mX10_its l G a1 (3 : Int32) M2) ok_X10_its k_X10_137 rfl rfl rfl rfl dX10_dripsTold_25) fun r5 M6 => ?_
    refine s_iast (n := 128) rfl (by decide) dX10_dripsTold_28 ?_
    refine s_letM fun M7 => ?_
    refine s_aload_n 0 dX10_dripsTold_29 rfl rfl ?_
    refine g_X10_25 (q := 6) rfl rfl dX10_dripsTold_30 ?_
    refine s_bipush (v := 99) dX10_dripsTold_33 cb_99 ?_
    refine s_aload_n 0 dX10_dripsTold_35 rfl rfl ?_
    refine s_iload_n 1 dX10_dripsTold_36 rfl rfl ?_
    refine s_call_i (s_runV (ci := 10) (rest := [.int (99 : Int32), rf G 6]) rfl rfl (mX10_cold l G a1 M7) ok_X10_cold k_X10_141 rfl rfl rfl rfl dX10_dripsTold_37) fun r8 M9 => ?_
    refine s_iast (n := 128) rfl (by decide) dX10_dripsTold_40 ?_
    refine s_letM fun M10 => ?_
    refine s_aload_n 0 dX10_dripsTold_41 rfl rfl ?_
    refine g_X10_25 (q := 6) rfl rfl dX10_dripsTold_42 ?_
    refine s_bipush (v := 97) dX10_dripsTold_45 cb_97 ?_
    refine s_aload_n 0 dX10_dripsTold_47 rfl rfl ?_
    refine s_iload_n 1 dX10_dripsTold_48 rfl rfl ?_
    refine s_bipush (v := 6) dX10_dripsTold_49 cb_6 ?_
    refine s_call_i (s_runV (ci := 10) (rest := [.int (97 : Int32), rf G 6]) rfl rfl (mX10_its l G a1 (6 : Int32) M10) ok_X10_its k_X10_137 rfl rfl rfl rfl dX10_dripsTold_51) fun r11 M12 => ?_
    refine s_iast (n := 128) rfl (by decide) dX10_dripsTold_54 ?_
    refine s_letM fun M13 => ?_
    refine s_aload_n 0 dX10_dripsTold_55 rfl rfl ?_
    refine g_X10_25 (q := 6) rfl rfl dX10_dripsTold_56 ?_
    refine s_bipush (v := 109) dX10_dripsTold_59 cb_109 ?_
    refine s_aload_n 0 dX10_dripsTold_61 rfl rfl ?_
    refine s_iload_n 1 dX10_dripsTold_62 rfl rfl ?_
    refine s_iconst (v := 1) dX10_dripsTold_63 ci_1 ?_
    refine s_call_i (s_runV (ci := 10) (rest := [.int (109 : Int32), rf G 6]) rfl rfl (mX10_its l G a1 (1 : Int32) M13) ok_X10_its k_X10_137 rfl rfl rfl rfl dX10_dripsTold_64) fun r14 M15 => ?_
    refine s_iast (n := 128) rfl (by decide) dX10_dripsTold_67 ?_
    refine s_letM fun M16 => ?_
    refine s_aload_n 0 dX10_dripsTold_68 rfl rfl ?_
    refine s_iconst (v := 0) dX10_dripsTold_69 ci_0 ?_
    refine s_call_i (s_runV (ci := 10) (rest := []) rfl rfl (mX10_worked l G (0 : Int32) M16) ok_X10_worked k_X10_144 rfl rfl rfl rfl dX10_dripsTold_70) fun r17 M18 => ?_
    exact s_iret rfl dX10_dripsTold_73
  · refine s_iconst (v := 3) dX10_dripsTold_8 ci_3 ?_
    refine s_aload_n 0 dX10_dripsTold_9 rfl rfl ?_
    refine s_iload_n 1 dX10_dripsTold_10 rfl rfl ?_
    refine s_call_i (s_runV (ci := 10) (rest := [.int (3 : Int32)]) rfl rfl (mX10_cold l G a1 M2) ok_X10_cold k_X10_141 rfl rfl rfl rfl dX10_dripsTold_11) fun r3 M4 => ?_
    refine s_isub dX10_dripsTold_14 ?_
    exact s_iret rfl dX10_dripsTold_15
theorem dX10_melts_0 : decode cX10_melts 0 = .ok (.aload_n 0, 1) := by decide +kernel
theorem dX10_melts_1 : decode cX10_melts 1 = .ok (.iload_n 1, 1) := by decide +kernel
theorem dX10_melts_2 : decode cX10_melts 2 = .ok (.iconst 3, 1) := by decide +kernel
theorem dX10_melts_3 : decode cX10_melts 3 = .ok (.invokevirtual 137, 3) := by decide +kernel
theorem dX10_melts_6 : decode cX10_melts 6 = .ok (.istore_n 2, 1) := by decide +kernel
theorem dX10_melts_7 : decode cX10_melts 7 = .ok (.iconst 5, 1) := by decide +kernel
theorem dX10_melts_8 : decode cX10_melts 8 = .ok (.aload_n 0, 1) := by decide +kernel
theorem dX10_melts_9 : decode cX10_melts 9 = .ok (.iload_n 1, 1) := by decide +kernel
theorem dX10_melts_10 : decode cX10_melts 10 = .ok (.invokevirtual 141, 3) := by decide +kernel
theorem dX10_melts_13 : decode cX10_melts 13 = .ok (.isub, 1) := by decide +kernel
theorem dX10_melts_14 : decode cX10_melts 14 = .ok (.iconst 0, 1) := by decide +kernel
theorem dX10_melts_15 : decode cX10_melts 15 = .ok (.bipush 99, 2) := by decide +kernel
theorem dX10_melts_17 : decode cX10_melts 17 = .ok (.invokestatic 64, 3) := by decide +kernel
theorem dX10_melts_20 : decode cX10_melts 20 = .ok (.istore_n 3, 1) := by decide +kernel
theorem dX10_melts_21 : decode cX10_melts 21 = .ok (.iload_n 3, 1) := by decide +kernel
theorem dX10_melts_22 : decode cX10_melts 22 = .ok (.istore 4, 2) := by decide +kernel
theorem dX10_melts_24 : decode cX10_melts 24 = .ok (.aload_n 0, 1) := by decide +kernel
theorem dX10_melts_25 : decode cX10_melts 25 = .ok (.iload_n 1, 1) := by decide +kernel
theorem dX10_melts_26 : decode cX10_melts 26 = .ok (.iconst 0, 1) := by decide +kernel
theorem dX10_melts_27 : decode cX10_melts 27 = .ok (.invokevirtual 137, 3) := by decide +kernel
theorem dX10_melts_30 : decode cX10_melts 30 = .ok (.tableswitch 119 1 6 #[38, 49, 57, 75, 93, 109], 38) := by decide +kernel
theorem dX10_melts_68 : decode cX10_melts 68 = .ok (.iload_n 3, 1) := by decide +kernel
theorem dX10_melts_69 : decode cX10_melts 69 = .ok (.iload_n 2, 1) := by decide +kernel
theorem dX10_melts_70 : decode cX10_melts 70 = .ok (.bipush 10, 2) := by decide +kernel
theorem dX10_melts_72 : decode cX10_melts 72 = .ok (.idiv, 1) := by decide +kernel
theorem dX10_melts_73 : decode cX10_melts 73 = .ok (.iadd, 1) := by decide +kernel
theorem dX10_melts_74 : decode cX10_melts 74 = .ok (.istore 4, 2) := by decide +kernel
theorem dX10_melts_76 : decode cX10_melts 76 = .ok (.goto 73, 3) := by decide +kernel
theorem dX10_melts_79 : decode cX10_melts 79 = .ok (.iload_n 3, 1) := by decide +kernel
theorem dX10_melts_80 : decode cX10_melts 80 = .ok (.iconst 2, 1) := by decide +kernel
theorem dX10_melts_81 : decode cX10_melts 81 = .ok (.idiv, 1) := by decide +kernel
theorem dX10_melts_82 : decode cX10_melts 82 = .ok (.istore 4, 2) := by decide +kernel
theorem dX10_melts_84 : decode cX10_melts 84 = .ok (.goto 65, 3) := by decide +kernel
theorem dX10_melts_87 : decode cX10_melts 87 = .ok (.iload_n 3, 1) := by decide +kernel
theorem dX10_melts_88 : decode cX10_melts 88 = .ok (.iload_n 2, 1) := by decide +kernel
theorem dX10_melts_89 : decode cX10_melts 89 = .ok (.bipush 10, 2) := by decide +kernel
theorem dX10_melts_91 : decode cX10_melts 91 = .ok (.idiv, 1) := by decide +kernel
theorem dX10_melts_92 : decode cX10_melts 92 = .ok (.iadd, 1) := by decide +kernel
theorem dX10_melts_93 : decode cX10_melts 93 = .ok (.aload_n 0, 1) := by decide +kernel
theorem dX10_melts_94 : decode cX10_melts 94 = .ok (.iload_n 1, 1) := by decide +kernel
theorem dX10_melts_95 : decode cX10_melts 95 = .ok (.iconst 1, 1) := by decide +kernel
theorem dX10_melts_96 : decode cX10_melts 96 = .ok (.invokevirtual 137, 3) := by decide +kernel
theorem dX10_melts_99 : decode cX10_melts 99 = .ok (.iadd, 1) := by decide +kernel
theorem dX10_melts_100 : decode cX10_melts 100 = .ok (.istore 4, 2) := by decide +kernel
theorem dX10_melts_102 : decode cX10_melts 102 = .ok (.goto 47, 3) := by decide +kernel
theorem dX10_melts_105 : decode cX10_melts 105 = .ok (.iload_n 3, 1) := by decide +kernel
theorem dX10_melts_106 : decode cX10_melts 106 = .ok (.iconst 2, 1) := by decide +kernel
theorem dX10_melts_107 : decode cX10_melts 107 = .ok (.idiv, 1) := by decide +kernel
theorem dX10_melts_108 : decode cX10_melts 108 = .ok (.aload_n 0, 1) := by decide +kernel
theorem dX10_melts_109 : decode cX10_melts 109 = .ok (.iload_n 1, 1) := by decide +kernel
theorem dX10_melts_110 : decode cX10_melts 110 = .ok (.bipush 6, 2) := by decide +kernel
theorem dX10_melts_112 : decode cX10_melts 112 = .ok (.invokevirtual 137, 3) := by decide +kernel
theorem dX10_melts_115 : decode cX10_melts 115 = .ok (.iconst 2, 1) := by decide +kernel
theorem dX10_melts_116 : decode cX10_melts 116 = .ok (.irem, 1) := by decide +kernel
theorem dX10_melts_117 : decode cX10_melts 117 = .ok (.iadd, 1) := by decide +kernel
theorem dX10_melts_118 : decode cX10_melts 118 = .ok (.istore 4, 2) := by decide +kernel
theorem dX10_melts_120 : decode cX10_melts 120 = .ok (.goto 29, 3) := by decide +kernel
theorem dX10_melts_123 : decode cX10_melts 123 = .ok (.iload_n 3, 1) := by decide +kernel
theorem dX10_melts_124 : decode cX10_melts 124 = .ok (.aload_n 0, 1) := by decide +kernel
theorem dX10_melts_125 : decode cX10_melts 125 = .ok (.iload_n 1, 1) := by decide +kernel
theorem dX10_melts_126 : decode cX10_melts 126 = .ok (.bipush 6, 2) := by decide +kernel
theorem dX10_melts_128 : decode cX10_melts 128 = .ok (.invokevirtual 137, 3) := by decide +kernel
theorem dX10_melts_131 : decode cX10_melts 131 = .ok (.iconst 4, 1) := by decide +kernel
theorem dX10_melts_132 : decode cX10_melts 132 = .ok (.idiv, 1) := by decide +kernel
theorem dX10_melts_133 : decode cX10_melts 133 = .ok (.iadd, 1) := by decide +kernel
theorem dX10_melts_134 : decode cX10_melts 134 = .ok (.istore 4, 2) := by decide +kernel
theorem dX10_melts_136 : decode cX10_melts 136 = .ok (.goto 13, 3) := by decide +kernel
theorem dX10_melts_139 : decode cX10_melts 139 = .ok (.aload_n 0, 1) := by decide +kernel
theorem dX10_melts_140 : decode cX10_melts 140 = .ok (.iload_n 1, 1) := by decide +kernel
theorem dX10_melts_141 : decode cX10_melts 141 = .ok (.invokevirtual 147, 3) := by decide +kernel
theorem dX10_melts_144 : decode cX10_melts 144 = .ok (.istore 4, 2) := by decide +kernel
theorem dX10_melts_146 : decode cX10_melts 146 = .ok (.goto 3, 3) := by decide +kernel
theorem dX10_melts_149 : decode cX10_melts 149 = .ok (.iload 4, 2) := by decide +kernel
theorem dX10_melts_151 : decode cX10_melts 151 = .ok (.iconst 0, 1) := by decide +kernel
theorem dX10_melts_152 : decode cX10_melts 152 = .ok (.iload_n 2, 1) := by decide +kernel
theorem dX10_melts_153 : decode cX10_melts 153 = .ok (.invokestatic 64, 3) := by decide +kernel
theorem dX10_melts_156 : decode cX10_melts 156 = .ok (.ireturn, 1) := by decide +kernel
def fX10_melts_B149 (v4 : Int32) (v2 : Int32) (M : Mm) : Option (Int32 × Mm) :=
  bd (fX10_held v4 (0 : Int32) v2 M) fun r10 M11 =>
  some (r10, M11)
theorem tX10_melts_B149 (l : Launch) (G : Gx) (v4 : Int32) (v2 : Int32) (M : Mm) : Sim cQi l layM G 4 cX10_melts RX10 5 (some .int) 149 [(4, .int v4), (2, .int v2)] [] M (fX10_melts_B149 v4 v2 M) := by
  unfold fX10_melts_B149
  refine s_iload 0 dX10_melts_149 rfl ?_
  refine s_iconst (v := 0) dX10_melts_151 ci_0 ?_
  refine s_iload_n 1 dX10_melts_152 rfl rfl ?_
  refine s_call_i (s_runS (rest := []) (mX10_held l G v4 (0 : Int32) v2 M) ok_X10_held k_X10_64 rfl rfl rfl rfl dX10_melts_153) fun r10 M11 => ?_
  exact s_iret rfl dX10_melts_156
def fX10_melts (a1 : Int32) (M : Mm) : Option (Int32 × Mm) :=
  bd (fX10_its a1 (3 : Int32) M) fun r1 M2 =>
  bd (fX10_cold a1 M2) fun r3 M4 =>
  bd (fX10_held ((5 : Int32) - r3) (0 : Int32) (99 : Int32) M4) fun r5 M6 =>
  bd (fX10_its a1 (0 : Int32) M6) fun r7 M8 =>
  if r7 = 1 then (lt (r5 + (r1 / (10 : Int32))) fun x9 =>
  fX10_melts_B149 x9 r1 M8)
  else if r7 = 2 then (lt (r5 / (2 : Int32)) fun x12 =>
  fX10_melts_B149 x12 r1 M8)
  else if r7 = 3 then (bd (fX10_its a1 (1 : Int32) M8) fun r13 M14 =>
  lt ((r5 + (r1 / (10 : Int32))) + r13) fun x15 =>
  fX10_melts_B149 x15 r1 M14)
  else if r7 = 4 then (bd (fX10_its a1 (6 : Int32) M8) fun r16 M17 =>
  lt ((r5 / (2 : Int32)) + (r16 - r16 / (2 : Int32) * (2 : Int32))) fun x18 =>
  fX10_melts_B149 x18 r1 M17)
  else if r7 = 5 then (bd (fX10_its a1 (6 : Int32) M8) fun r19 M20 =>
  lt (r5 + (r19 / (4 : Int32))) fun x21 =>
  fX10_melts_B149 x21 r1 M20)
  else if r7 = 6 then (bd (fX10_dripsTold a1 M8) fun r22 M23 =>
  fX10_melts_B149 r22 r1 M23)
  else fX10_melts_B149 r5 r1 M8
theorem mX10_melts (l : Launch) (G : Gx) (a1 : Int32) (M : Mm) : Mt cQi l layM G 4 yX10_melts cX10_melts 5 (some .int) [rf G 0, .int a1] M (fX10_melts a1 M) := by
  refine Mt.of2 (own := RX10) (lv := [(0, rf G 0), (1, .int a1)]) rfl (by decide +kernel) rfl rfl ?_
  unfold fX10_melts
  refine s_aload_n 0 dX10_melts_0 rfl rfl ?_
  refine s_iload_n 1 dX10_melts_1 rfl rfl ?_
  refine s_iconst (v := 3) dX10_melts_2 ci_3 ?_
  refine s_call_i (s_runV (ci := 10) (rest := []) rfl rfl (mX10_its l G a1 (3 : Int32) M) ok_X10_its k_X10_137 rfl rfl rfl rfl dX10_melts_3) fun r1 M2 => ?_
  refine s_istore_n (lv' := [(2, .int r1), (0, rf G 0), (1, .int a1)]) dX10_melts_6 rfl rfl rfl ?_
  refine s_iconst (v := 5) dX10_melts_7 ci_5 ?_
  refine s_aload_n 1 dX10_melts_8 rfl rfl ?_
  refine s_iload_n 2 dX10_melts_9 rfl rfl ?_
  refine s_call_i (s_runV (ci := 10) (rest := [.int (5 : Int32)]) rfl rfl (mX10_cold l G a1 M2) ok_X10_cold k_X10_141 rfl rfl rfl rfl dX10_melts_10) fun r3 M4 => ?_
  refine s_isub dX10_melts_13 ?_
  refine s_iconst (v := 0) dX10_melts_14 ci_0 ?_
  refine s_bipush (v := 99) dX10_melts_15 cb_99 ?_
  refine s_call_i (s_runS (rest := []) (mX10_held l G ((5 : Int32) - r3) (0 : Int32) (99 : Int32) M4) ok_X10_held k_X10_64 rfl rfl rfl rfl dX10_melts_17) fun r5 M6 => ?_
  refine s_istore_n (lv' := [(3, .int r5), (2, .int r1), (0, rf G 0), (1, .int a1)]) dX10_melts_20 rfl rfl rfl ?_
  refine s_iload_n 0 dX10_melts_21 rfl rfl ?_
  refine s_istore (lv' := [(4, .int r5), (3, .int r5), (2, .int r1), (0, rf G 0), (1, .int a1)]) dX10_melts_22 rfl rfl ?_
  refine s_aload_n 3 dX10_melts_24 rfl rfl ?_
  refine s_iload_n 4 dX10_melts_25 rfl rfl ?_
  refine s_iconst (v := 0) dX10_melts_26 ci_0 ?_
  refine s_call_i (s_runV (ci := 10) (rest := []) rfl rfl (mX10_its l G a1 (0 : Int32) M6) ok_X10_its k_X10_137 rfl rfl rfl rfl dX10_melts_27) fun r7 M8 => ?_
  refine s_table (tgt := 149) dX10_melts_30 (by decide) (by decide) (by decide) ?_
  refine lk_cons (k := 1) (tgt := 68) (by decide) (by decide) ?_ ?_
  · refine s_iload_n 1 dX10_melts_68 rfl rfl ?_
    refine s_iload_n 2 dX10_melts_69 rfl rfl ?_
    refine s_bipush (v := 10) dX10_melts_70 cb_10 ?_
    refine s_idiv dX10_melts_72 (by decide) ?_
    refine s_iadd dX10_melts_73 ?_
    refine s_leti fun x9 => ?_
    refine s_istore (lv' := [(4, .int x9), (3, .int r5), (2, .int r1), (0, rf G 0), (1, .int a1)]) dX10_melts_74 rfl rfl ?_
    refine s_goto (tgt := 149) dX10_melts_76 (by decide) ?_
    exact s_sub [0, 2] rfl (tX10_melts_B149 l G x9 r1 M8)
  refine lk_cons (k := 2) (tgt := 79) (by decide) (by decide) ?_ ?_
  · refine s_iload_n 1 dX10_melts_79 rfl rfl ?_
    refine s_iconst (v := 2) dX10_melts_80 ci_2 ?_
    refine s_idiv dX10_melts_81 (by decide) ?_
    refine s_leti fun x12 => ?_
    refine s_istore (lv' := [(4, .int x12), (3, .int r5), (2, .int r1), (0, rf G 0), (1, .int a1)]) dX10_melts_82 rfl rfl ?_
    refine s_goto (tgt := 149) dX10_melts_84 (by decide) ?_
    exact s_sub [0, 2] rfl (tX10_melts_B149 l G x12 r1 M8)
  refine lk_cons (k := 3) (tgt := 87) (by decide) (by decide) ?_ ?_
  · refine s_iload_n 1 dX10_melts_87 rfl rfl ?_
    refine s_iload_n 2 dX10_melts_88 rfl rfl ?_
    refine s_bipush (v := 10) dX10_melts_89 cb_10 ?_
    refine s_idiv dX10_melts_91 (by decide) ?_
    refine s_iadd dX10_melts_92 ?_
    refine s_aload_n 3 dX10_melts_93 rfl rfl ?_
    refine s_iload_n 4 dX10_melts_94 rfl rfl ?_
    refine s_iconst (v := 1) dX10_melts_95 ci_1 ?_
    refine s_call_i (s_runV (ci := 10) (rest := [.int (r5 + (r1 / (10 : Int32)))]) rfl rfl (mX10_its l G a1 (1 : Int32) M8) ok_X10_its k_X10_137 rfl rfl rfl rfl dX10_melts_96) fun r13 M14 => ?_
    refine s_iadd dX10_melts_99 ?_
    refine s_leti fun x15 => ?_
    refine s_istore (lv' := [(4, .int x15), (3, .int r5), (2, .int r1), (0, rf G 0), (1, .int a1)]) dX10_melts_100 rfl rfl ?_
    refine s_goto (tgt := 149) dX10_melts_102 (by decide) ?_
    exact s_sub [0, 2] rfl (tX10_melts_B149 l G x15 r1 M14)
  refine lk_cons (k := 4) (tgt := 105) (by decide) (by decide) ?_ ?_
  · refine s_iload_n 1 dX10_melts_105 rfl rfl ?_
    refine s_iconst (v := 2) dX10_melts_106 ci_2 ?_
    refine s_idiv dX10_melts_107 (by decide) ?_
    refine s_aload_n 3 dX10_melts_108 rfl rfl ?_
    refine s_iload_n 4 dX10_melts_109 rfl rfl ?_
    refine s_bipush (v := 6) dX10_melts_110 cb_6 ?_
    refine s_call_i (s_runV (ci := 10) (rest := [.int (r5 / (2 : Int32))]) rfl rfl (mX10_its l G a1 (6 : Int32) M8) ok_X10_its k_X10_137 rfl rfl rfl rfl dX10_melts_112) fun r16 M17 => ?_
    refine s_iconst (v := 2) dX10_melts_115 ci_2 ?_
    refine s_irem dX10_melts_116 (by decide) ?_
    refine s_iadd dX10_melts_117 ?_
    refine s_leti fun x18 => ?_
    refine s_istore (lv' := [(4, .int x18), (3, .int r5), (2, .int r1), (0, rf G 0), (1, .int a1)]) dX10_melts_118 rfl rfl ?_
    refine s_goto (tgt := 149) dX10_melts_120 (by decide) ?_
    exact s_sub [0, 2] rfl (tX10_melts_B149 l G x18 r1 M17)
  refine lk_cons (k := 5) (tgt := 123) (by decide) (by decide) ?_ ?_
  · refine s_iload_n 1 dX10_melts_123 rfl rfl ?_
    refine s_aload_n 3 dX10_melts_124 rfl rfl ?_
    refine s_iload_n 4 dX10_melts_125 rfl rfl ?_
    refine s_bipush (v := 6) dX10_melts_126 cb_6 ?_
    refine s_call_i (s_runV (ci := 10) (rest := [.int r5]) rfl rfl (mX10_its l G a1 (6 : Int32) M8) ok_X10_its k_X10_137 rfl rfl rfl rfl dX10_melts_128) fun r19 M20 => ?_
    refine s_iconst (v := 4) dX10_melts_131 ci_4 ?_
    refine s_idiv dX10_melts_132 (by decide) ?_
    refine s_iadd dX10_melts_133 ?_
    refine s_leti fun x21 => ?_
    refine s_istore (lv' := [(4, .int x21), (3, .int r5), (2, .int r1), (0, rf G 0), (1, .int a1)]) dX10_melts_134 rfl rfl ?_
    refine s_goto (tgt := 149) dX10_melts_136 (by decide) ?_
    exact s_sub [0, 2] rfl (tX10_melts_B149 l G x21 r1 M20)
  refine lk_cons (k := 6) (tgt := 139) (by decide) (by decide) ?_ ?_
  · refine s_aload_n 3 dX10_melts_139 rfl rfl ?_
    refine s_iload_n 4 dX10_melts_140 rfl rfl ?_
    refine s_call_i (s_runV (ci := 10) (rest := []) rfl rfl (mX10_dripsTold l G a1 M8) ok_X10_dripsTold k_X10_147 rfl rfl rfl rfl dX10_melts_141) fun r22 M23 => ?_
    refine s_istore (lv' := [(4, .int r22), (3, .int r5), (2, .int r1), (0, rf G 0), (1, .int a1)]) dX10_melts_144 rfl rfl ?_
    refine s_goto (tgt := 149) dX10_melts_146 (by decide) ?_
    exact s_sub [0, 2] rfl (tX10_melts_B149 l G r22 r1 M23)
  refine lk_nil (tgt := 149) (by decide) ?_
  exact s_sub [0, 2] rfl (tX10_melts_B149 l G r5 r1 M8)
theorem dX10_read_0 : decode cX10_read 0 = .ok (.aload_n 0, 1) := by decide +kernel
theorem dX10_read_1 : decode cX10_read 1 = .ok (.iload_n 1, 1) := by decide +kernel
theorem dX10_read_2 : decode cX10_read 2 = .ok (.iconst 0, 1) := by decide +kernel
theorem dX10_read_3 : decode cX10_read 3 = .ok (.invokevirtual 137, 3) := by decide +kernel
theorem dX10_read_6 : decode cX10_read 6 = .ok (.istore_n 2, 1) := by decide +kernel
theorem dX10_read_7 : decode cX10_read 7 = .ok (.iload_n 2, 1) := by decide +kernel
theorem dX10_read_8 : decode cX10_read 8 = .ok (.iconst 4, 1) := by decide +kernel
theorem dX10_read_9 : decode cX10_read 9 = .ok (.if_icmp .ne 8, 3) := by decide +kernel
theorem dX10_read_12 : decode cX10_read 12 = .ok (.bipush 10, 2) := by decide +kernel
theorem dX10_read_14 : decode cX10_read 14 = .ok (.goto 12, 3) := by decide +kernel
theorem dX10_read_17 : decode cX10_read 17 = .ok (.bipush 10, 2) := by decide +kernel
theorem dX10_read_19 : decode cX10_read 19 = .ok (.aload_n 0, 1) := by decide +kernel
theorem dX10_read_20 : decode cX10_read 20 = .ok (.iload_n 1, 1) := by decide +kernel
theorem dX10_read_21 : decode cX10_read 21 = .ok (.iconst 1, 1) := by decide +kernel
theorem dX10_read_22 : decode cX10_read 22 = .ok (.invokevirtual 137, 3) := by decide +kernel
theorem dX10_read_25 : decode cX10_read 25 = .ok (.iadd, 1) := by decide +kernel
theorem dX10_read_26 : decode cX10_read 26 = .ok (.istore_n 3, 1) := by decide +kernel
theorem dX10_read_27 : decode cX10_read 27 = .ok (.aload_n 0, 1) := by decide +kernel
theorem dX10_read_28 : decode cX10_read 28 = .ok (.iload_n 1, 1) := by decide +kernel
theorem dX10_read_29 : decode cX10_read 29 = .ok (.iconst 3, 1) := by decide +kernel
theorem dX10_read_30 : decode cX10_read 30 = .ok (.invokevirtual 137, 3) := by decide +kernel
theorem dX10_read_33 : decode cX10_read 33 = .ok (.iload_n 3, 1) := by decide +kernel
theorem dX10_read_34 : decode cX10_read 34 = .ok (.idiv, 1) := by decide +kernel
theorem dX10_read_35 : decode cX10_read 35 = .ok (.istore 4, 2) := by decide +kernel
theorem dX10_read_37 : decode cX10_read 37 = .ok (.iload_n 2, 1) := by decide +kernel
theorem dX10_read_38 : decode cX10_read 38 = .ok (.iconst 2, 1) := by decide +kernel
theorem dX10_read_39 : decode cX10_read 39 = .ok (.if_icmp .eq 8, 3) := by decide +kernel
theorem dX10_read_42 : decode cX10_read 42 = .ok (.iload_n 2, 1) := by decide +kernel
theorem dX10_read_43 : decode cX10_read 43 = .ok (.iconst 4, 1) := by decide +kernel
theorem dX10_read_44 : decode cX10_read 44 = .ok (.if_icmp .ne 18, 3) := by decide +kernel
theorem dX10_read_47 : decode cX10_read 47 = .ok (.iload 4, 2) := by decide +kernel
theorem dX10_read_49 : decode cX10_read 49 = .ok (.iload 4, 2) := by decide +kernel
theorem dX10_read_51 : decode cX10_read 51 = .ok (.ifCond .le 7, 3) := by decide +kernel
theorem dX10_read_54 : decode cX10_read 54 = .ok (.iconst 1, 1) := by decide +kernel
theorem dX10_read_55 : decode cX10_read 55 = .ok (.goto 4, 3) := by decide +kernel
theorem dX10_read_58 : decode cX10_read 58 = .ok (.iconst 0, 1) := by decide +kernel
theorem dX10_read_59 : decode cX10_read 59 = .ok (.iadd, 1) := by decide +kernel
theorem dX10_read_60 : decode cX10_read 60 = .ok (.istore 4, 2) := by decide +kernel
theorem dX10_read_62 : decode cX10_read 62 = .ok (.iload_n 2, 1) := by decide +kernel
theorem dX10_read_63 : decode cX10_read 63 = .ok (.iconst 5, 1) := by decide +kernel
theorem dX10_read_64 : decode cX10_read 64 = .ok (.if_icmp .ne 10, 3) := by decide +kernel
theorem dX10_read_67 : decode cX10_read 67 = .ok (.iload 4, 2) := by decide +kernel
theorem dX10_read_69 : decode cX10_read 69 = .ok (.iconst 1, 1) := by decide +kernel
theorem dX10_read_70 : decode cX10_read 70 = .ok (.isub, 1) := by decide +kernel
theorem dX10_read_71 : decode cX10_read 71 = .ok (.goto 5, 3) := by decide +kernel
theorem dX10_read_74 : decode cX10_read 74 = .ok (.iload 4, 2) := by decide +kernel
theorem dX10_read_76 : decode cX10_read 76 = .ok (.iconst 0, 1) := by decide +kernel
theorem dX10_read_77 : decode cX10_read 77 = .ok (.bipush 9, 2) := by decide +kernel
theorem dX10_read_79 : decode cX10_read 79 = .ok (.invokestatic 64, 3) := by decide +kernel
theorem dX10_read_82 : decode cX10_read 82 = .ok (.ireturn, 1) := by decide +kernel
def fX10_read_B76 (w0 : Int32) (M : Mm) : Option (Int32 × Mm) :=
  bd (fX10_held w0 (0 : Int32) (9 : Int32) M) fun r10 M11 =>
  some (r10, M11)
theorem tX10_read_B76 (l : Launch) (G : Gx) (w0 : Int32) (M : Mm) : Sim cQi l layM G 2 cX10_read RX10 5 (some .int) 76 [] [.int w0] M (fX10_read_B76 w0 M) := by
  unfold fX10_read_B76
  refine s_iconst (v := 0) dX10_read_76 ci_0 ?_
  refine s_bipush (v := 9) dX10_read_77 cb_9 ?_
  refine s_call_i (s_runS (rest := []) (mX10_held l G w0 (0 : Int32) (9 : Int32) M) ok_X10_held k_X10_64 rfl rfl rfl rfl dX10_read_79) fun r10 M11 => ?_
  exact s_iret rfl dX10_read_82
def fX10_read_B62 (v4 : Int32) (v2 : Int32) (M : Mm) : Option (Int32 × Mm) :=
  if v2 = (5 : Int32) then (fX10_read_B76 (v4 - (1 : Int32)) M)
  else fX10_read_B76 v4 M
theorem tX10_read_B62 (l : Launch) (G : Gx) (v4 : Int32) (v2 : Int32) (M : Mm) : Sim cQi l layM G 2 cX10_read RX10 5 (some .int) 62 [(4, .int v4), (2, .int v2)] [] M (fX10_read_B62 v4 v2 M) := by
  unfold fX10_read_B62
  refine s_iload_n 1 dX10_read_62 rfl rfl ?_
  refine s_iconst (v := 5) dX10_read_63 ci_5 ?_
  refine s_icmpne (tgt := 74) dX10_read_64 (by decide) ?_ ?_
  · refine s_iload 0 dX10_read_74 rfl ?_
    exact s_sub [] rfl (tX10_read_B76 l G v4 M)
  · refine s_iload 0 dX10_read_67 rfl ?_
    refine s_iconst (v := 1) dX10_read_69 ci_1 ?_
    refine s_isub dX10_read_70 ?_
    refine s_goto (tgt := 76) dX10_read_71 (by decide) ?_
    exact s_sub [] rfl (tX10_read_B76 l G (v4 - (1 : Int32)) M)
def fX10_read_B59 (v2 : Int32) (w0 : Int32) (w1 : Int32) (M : Mm) : Option (Int32 × Mm) :=
  lt (w1 + w0) fun x9 =>
  fX10_read_B62 x9 v2 M
theorem tX10_read_B59 (l : Launch) (G : Gx) (v2 : Int32) (w0 : Int32) (w1 : Int32) (M : Mm) : Sim cQi l layM G 2 cX10_read RX10 5 (some .int) 59 [(2, .int v2)] [.int w0, .int w1] M (fX10_read_B59 v2 w0 w1 M) := by
  unfold fX10_read_B59
  refine s_iadd dX10_read_59 ?_
  refine s_leti fun x9 => ?_
  refine s_istore (lv' := [(4, .int x9), (2, .int v2)]) dX10_read_60 rfl rfl ?_
  exact s_sub [0, 1] rfl (tX10_read_B62 l G x9 v2 M)
def fX10_read_B47 (v4 : Int32) (v2 : Int32) (M : Mm) : Option (Int32 × Mm) :=
  if v4 ≤ 0 then (fX10_read_B59 v2 (0 : Int32) v4 M)
  else fX10_read_B59 v2 (1 : Int32) v4 M
theorem tX10_read_B47 (l : Launch) (G : Gx) (v4 : Int32) (v2 : Int32) (M : Mm) : Sim cQi l layM G 2 cX10_read RX10 5 (some .int) 47 [(4, .int v4), (2, .int v2)] [] M (fX10_read_B47 v4 v2 M) := by
  unfold fX10_read_B47
  refine s_iload 0 dX10_read_47 rfl ?_
  refine s_iload 0 dX10_read_49 rfl ?_
  refine s_ifle (tgt := 58) dX10_read_51 (by decide) ?_ ?_
  · refine s_iconst (v := 0) dX10_read_58 ci_0 ?_
    exact s_sub [1] rfl (tX10_read_B59 l G v2 (0 : Int32) v4 M)
  · refine s_iconst (v := 1) dX10_read_54 ci_1 ?_
    refine s_goto (tgt := 59) dX10_read_55 (by decide) ?_
    exact s_sub [1] rfl (tX10_read_B59 l G v2 (1 : Int32) v4 M)
def fX10_read_B26 (v2 : Int32) (v1 : Int32) (w0 : Int32) (M : Mm) : Option (Int32 × Mm) :=
  bd (fX10_its v1 (3 : Int32) M) fun r5 M6 =>
  gd (nz w0) <|
  lt (r5 / w0) fun x8 =>
  if v2 = (2 : Int32) then (fX10_read_B47 x8 v2 M6)
  else if v2 = (4 : Int32) then (fX10_read_B47 x8 v2 M6)
  else fX10_read_B62 x8 v2 M6
theorem tX10_read_B26 (l : Launch) (G : Gx) (v2 : Int32) (v1 : Int32) (w0 : Int32) (M : Mm) : Sim cQi l layM G 2 cX10_read RX10 5 (some .int) 26 [(2, .int v2), (0, rf G 0), (1, .int v1)] [.int w0] M (fX10_read_B26 v2 v1 w0 M) := by
  unfold fX10_read_B26
  refine s_istore_n (lv' := [(3, .int w0), (2, .int v2), (0, rf G 0), (1, .int v1)]) dX10_read_26 rfl rfl rfl ?_
  refine s_aload_n 2 dX10_read_27 rfl rfl ?_
  refine s_iload_n 3 dX10_read_28 rfl rfl ?_
  refine s_iconst (v := 3) dX10_read_29 ci_3 ?_
  refine s_call_i (s_runV (ci := 10) (rest := []) rfl rfl (mX10_its l G v1 (3 : Int32) M) ok_X10_its k_X10_137 rfl rfl rfl rfl dX10_read_30) fun r5 M6 => ?_
  refine s_iload_n 0 dX10_read_33 rfl rfl ?_
  refine s_gd fun h7 => ?_
  refine s_idiv dX10_read_34 h7 ?_
  refine s_leti fun x8 => ?_
  refine s_istore (lv' := [(4, .int x8), (3, .int w0), (2, .int v2), (0, rf G 0), (1, .int v1)]) dX10_read_35 rfl rfl ?_
  refine s_iload_n 2 dX10_read_37 rfl rfl ?_
  refine s_iconst (v := 2) dX10_read_38 ci_2 ?_
  refine s_icmpeq (tgt := 47) dX10_read_39 (by decide) ?_ ?_
  · exact s_sub [0, 2] rfl (tX10_read_B47 l G x8 v2 M6)
  · refine s_iload_n 2 dX10_read_42 rfl rfl ?_
    refine s_iconst (v := 4) dX10_read_43 ci_4 ?_
    refine s_icmpne (tgt := 62) dX10_read_44 (by decide) ?_ ?_
    · exact s_sub [0, 2] rfl (tX10_read_B62 l G x8 v2 M6)
    · exact s_sub [0, 2] rfl (tX10_read_B47 l G x8 v2 M6)
def fX10_read (a1 : Int32) (M : Mm) : Option (Int32 × Mm) :=
  bd (fX10_its a1 (0 : Int32) M) fun r1 M2 =>
  if r1 = (4 : Int32) then (fX10_read_B26 r1 a1 (10 : Int32) M2)
  else bd (fX10_its a1 (1 : Int32) M2) fun r3 M4 =>
  fX10_read_B26 r1 a1 ((10 : Int32) + r3) M4
theorem mX10_read (l : Launch) (G : Gx) (a1 : Int32) (M : Mm) : Mt cQi l layM G 2 yX10_read cX10_read 5 (some .int) [rf G 0, .int a1] M (fX10_read a1 M) := by
  refine Mt.of2 (own := RX10) (lv := [(0, rf G 0), (1, .int a1)]) rfl (by decide +kernel) rfl rfl ?_
  unfold fX10_read
  refine s_aload_n 0 dX10_read_0 rfl rfl ?_
  refine s_iload_n 1 dX10_read_1 rfl rfl ?_
  refine s_iconst (v := 0) dX10_read_2 ci_0 ?_
  refine s_call_i (s_runV (ci := 10) (rest := []) rfl rfl (mX10_its l G a1 (0 : Int32) M) ok_X10_its k_X10_137 rfl rfl rfl rfl dX10_read_3) fun r1 M2 => ?_
  refine s_istore_n (lv' := [(2, .int r1), (0, rf G 0), (1, .int a1)]) dX10_read_6 rfl rfl rfl ?_
  refine s_iload_n 0 dX10_read_7 rfl rfl ?_
  refine s_iconst (v := 4) dX10_read_8 ci_4 ?_
  refine s_icmpne (tgt := 17) dX10_read_9 (by decide) ?_ ?_
  · refine s_bipush (v := 10) dX10_read_17 cb_10 ?_
    refine s_aload_n 1 dX10_read_19 rfl rfl ?_
    refine s_iload_n 2 dX10_read_20 rfl rfl ?_
    refine s_iconst (v := 1) dX10_read_21 ci_1 ?_
    refine s_call_i (s_runV (ci := 10) (rest := [.int (10 : Int32)]) rfl rfl (mX10_its l G a1 (1 : Int32) M2) ok_X10_its k_X10_137 rfl rfl rfl rfl dX10_read_22) fun r3 M4 => ?_
    refine s_iadd dX10_read_25 ?_
    exact s_sub [0, 1, 2] rfl (tX10_read_B26 l G r1 a1 ((10 : Int32) + r3) M4)
  · refine s_bipush (v := 10) dX10_read_12 cb_10 ?_
    refine s_goto (tgt := 26) dX10_read_14 (by decide) ?_
    exact s_sub [0, 1, 2] rfl (tX10_read_B26 l G r1 a1 (10 : Int32) M2)
theorem dX10_sees_0 : decode cX10_sees 0 = .ok (.aload_n 0, 1) := by decide +kernel
theorem dX10_sees_1 : decode cX10_sees 1 = .ok (.iload_n 1, 1) := by decide +kernel
theorem dX10_sees_2 : decode cX10_sees 2 = .ok (.invokevirtual 150, 3) := by decide +kernel
theorem dX10_sees_5 : decode cX10_sees 5 = .ok (.istore_n 2, 1) := by decide +kernel
theorem dX10_sees_6 : decode cX10_sees 6 = .ok (.aload_n 0, 1) := by decide +kernel
theorem dX10_sees_7 : decode cX10_sees 7 = .ok (.iconst 1, 1) := by decide +kernel
theorem dX10_sees_8 : decode cX10_sees 8 = .ok (.invokevirtual 131, 3) := by decide +kernel
theorem dX10_sees_11 : decode cX10_sees 11 = .ok (.ifCond .ne 5, 3) := by decide +kernel
theorem dX10_sees_14 : decode cX10_sees 14 = .ok (.iload_n 2, 1) := by decide +kernel
theorem dX10_sees_15 : decode cX10_sees 15 = .ok (.ireturn, 1) := by decide +kernel
theorem dX10_sees_16 : decode cX10_sees 16 = .ok (.aload_n 0, 1) := by decide +kernel
theorem dX10_sees_17 : decode cX10_sees 17 = .ok (.getfield 25, 3) := by decide +kernel
theorem dX10_sees_20 : decode cX10_sees 20 = .ok (.bipush 114, 2) := by decide +kernel
theorem dX10_sees_22 : decode cX10_sees 22 = .ok (.iload_n 2, 1) := by decide +kernel
theorem dX10_sees_23 : decode cX10_sees 23 = .ok (.iastore, 1) := by decide +kernel
theorem dX10_sees_24 : decode cX10_sees 24 = .ok (.aload_n 0, 1) := by decide +kernel
theorem dX10_sees_25 : decode cX10_sees 25 = .ok (.getfield 25, 3) := by decide +kernel
theorem dX10_sees_28 : decode cX10_sees 28 = .ok (.bipush 115, 2) := by decide +kernel
theorem dX10_sees_30 : decode cX10_sees 30 = .ok (.aload_n 0, 1) := by decide +kernel
theorem dX10_sees_31 : decode cX10_sees 31 = .ok (.iload_n 1, 1) := by decide +kernel
theorem dX10_sees_32 : decode cX10_sees 32 = .ok (.iconst 5, 1) := by decide +kernel
theorem dX10_sees_33 : decode cX10_sees 33 = .ok (.invokevirtual 137, 3) := by decide +kernel
theorem dX10_sees_36 : decode cX10_sees 36 = .ok (.iconst (-1), 1) := by decide +kernel
theorem dX10_sees_37 : decode cX10_sees 37 = .ok (.if_icmp .ne 7, 3) := by decide +kernel
theorem dX10_sees_40 : decode cX10_sees 40 = .ok (.iconst 0, 1) := by decide +kernel
theorem dX10_sees_41 : decode cX10_sees 41 = .ok (.goto 14, 3) := by decide +kernel
theorem dX10_sees_44 : decode cX10_sees 44 = .ok (.aload_n 0, 1) := by decide +kernel
theorem dX10_sees_45 : decode cX10_sees 45 = .ok (.aload_n 0, 1) := by decide +kernel
theorem dX10_sees_46 : decode cX10_sees 46 = .ok (.iload_n 1, 1) := by decide +kernel
theorem dX10_sees_47 : decode cX10_sees 47 = .ok (.iconst 5, 1) := by decide +kernel
theorem dX10_sees_48 : decode cX10_sees 48 = .ok (.invokevirtual 137, 3) := by decide +kernel
theorem dX10_sees_51 : decode cX10_sees 51 = .ok (.iconst 1, 1) := by decide +kernel
theorem dX10_sees_52 : decode cX10_sees 52 = .ok (.invokevirtual 153, 3) := by decide +kernel
theorem dX10_sees_55 : decode cX10_sees 55 = .ok (.iastore, 1) := by decide +kernel
theorem dX10_sees_56 : decode cX10_sees 56 = .ok (.aload_n 0, 1) := by decide +kernel
theorem dX10_sees_57 : decode cX10_sees 57 = .ok (.getfield 25, 3) := by decide +kernel
theorem dX10_sees_60 : decode cX10_sees 60 = .ok (.bipush 103, 2) := by decide +kernel
theorem dX10_sees_62 : decode cX10_sees 62 = .ok (.aload_n 0, 1) := by decide +kernel
theorem dX10_sees_63 : decode cX10_sees 63 = .ok (.iload_n 1, 1) := by decide +kernel
theorem dX10_sees_64 : decode cX10_sees 64 = .ok (.iconst 2, 1) := by decide +kernel
theorem dX10_sees_65 : decode cX10_sees 65 = .ok (.invokevirtual 137, 3) := by decide +kernel
theorem dX10_sees_68 : decode cX10_sees 68 = .ok (.iastore, 1) := by decide +kernel
theorem dX10_sees_69 : decode cX10_sees 69 = .ok (.aload_n 0, 1) := by decide +kernel
theorem dX10_sees_70 : decode cX10_sees 70 = .ok (.iconst 1, 1) := by decide +kernel
theorem dX10_sees_71 : decode cX10_sees 71 = .ok (.invokevirtual 144, 3) := by decide +kernel
theorem dX10_sees_74 : decode cX10_sees 74 = .ok (.iconst 0, 1) := by decide +kernel
theorem dX10_sees_75 : decode cX10_sees 75 = .ok (.bipush 9, 2) := by decide +kernel
theorem dX10_sees_77 : decode cX10_sees 77 = .ok (.invokestatic 64, 3) := by decide +kernel
theorem dX10_sees_80 : decode cX10_sees 80 = .ok (.ireturn, 1) := by decide +kernel
def fX10_sees_B55 (v1 : Int32) (w0 : Int32) (w1 : Int32) (M : Mm) : Option (Int32 × Mm) :=
  gd (inb w1 128) <|
  lt (wr M 6 (ix w1) w0) fun M13 =>
  bd (fX10_its v1 (2 : Int32) M13) fun r14 M15 =>
  lt (wr M15 6 (ix (103 : Int32)) r14) fun M16 =>
  bd (fX10_worked (1 : Int32) M16) fun r17 M18 =>
  bd (fX10_held r17 (0 : Int32) (9 : Int32) M18) fun r19 M20 =>
  some (r19, M20)
theorem tX10_sees_B55 (l : Launch) (G : Gx) (v1 : Int32) (w0 : Int32) (w1 : Int32) (M : Mm) : Sim cQi l layM G 3 cX10_sees RX10 3 (some .int) 55 [(0, rf G 0), (1, .int v1)] [.int w0, .int w1, rf G 6] M (fX10_sees_B55 v1 w0 w1 M) := by
  unfold fX10_sees_B55
  refine s_gd fun h12 => ?_
  refine s_iast (n := 128) rfl h12 dX10_sees_55 ?_
  refine s_letM fun M13 => ?_
  refine s_aload_n 0 dX10_sees_56 rfl rfl ?_
  refine g_X10_25 (q := 6) rfl rfl dX10_sees_57 ?_
  refine s_bipush (v := 103) dX10_sees_60 cb_103 ?_
  refine s_aload_n 0 dX10_sees_62 rfl rfl ?_
  refine s_iload_n 1 dX10_sees_63 rfl rfl ?_
  refine s_iconst (v := 2) dX10_sees_64 ci_2 ?_
  refine s_call_i (s_runV (ci := 10) (rest := [.int (103 : Int32), rf G 6]) rfl rfl (mX10_its l G v1 (2 : Int32) M13) ok_X10_its k_X10_137 rfl rfl rfl rfl dX10_sees_65) fun r14 M15 => ?_
  refine s_iast (n := 128) rfl (by decide) dX10_sees_68 ?_
  refine s_letM fun M16 => ?_
  refine s_aload_n 0 dX10_sees_69 rfl rfl ?_
  refine s_iconst (v := 1) dX10_sees_70 ci_1 ?_
  refine s_call_i (s_runV (ci := 10) (rest := []) rfl rfl (mX10_worked l G (1 : Int32) M16) ok_X10_worked k_X10_144 rfl rfl rfl rfl dX10_sees_71) fun r17 M18 => ?_
  refine s_iconst (v := 0) dX10_sees_74 ci_0 ?_
  refine s_bipush (v := 9) dX10_sees_75 cb_9 ?_
  refine s_call_i (s_runS (rest := []) (mX10_held l G r17 (0 : Int32) (9 : Int32) M18) ok_X10_held k_X10_64 rfl rfl rfl rfl dX10_sees_77) fun r19 M20 => ?_
  exact s_iret rfl dX10_sees_80
def fX10_sees (a1 : Int32) (M : Mm) : Option (Int32 × Mm) :=
  bd (fX10_read a1 M) fun r1 M2 =>
  bd (fX10_hasText (1 : Int32) M2) fun r3 M4 =>
  if r3 = true then (lt (wr M4 6 (ix (114 : Int32)) r1) fun M5 =>
  bd (fX10_its a1 (5 : Int32) M5) fun r6 M7 =>
  if r6 = (-1 : Int32) then (fX10_sees_B55 a1 (0 : Int32) (115 : Int32) M7)
  else bd (fX10_its a1 (5 : Int32) M7) fun r8 M9 =>
  bd (fX10_of r8 (1 : Int32) M9) fun r10 M11 =>
  fX10_sees_B55 a1 r10 (115 : Int32) M11)
  else some (r1, M4)
theorem mX10_sees (l : Launch) (G : Gx) (a1 : Int32) (M : Mm) : Mt cQi l layM G 3 yX10_sees cX10_sees 3 (some .int) [rf G 0, .int a1] M (fX10_sees a1 M) := by
  refine Mt.of2 (own := RX10) (lv := [(0, rf G 0), (1, .int a1)]) rfl (by decide +kernel) rfl rfl ?_
  unfold fX10_sees
  refine s_aload_n 0 dX10_sees_0 rfl rfl ?_
  refine s_iload_n 1 dX10_sees_1 rfl rfl ?_
  refine s_call_i (s_runV (ci := 10) (rest := []) rfl rfl (mX10_read l G a1 M) ok_X10_read k_X10_150 rfl rfl rfl rfl dX10_sees_2) fun r1 M2 => ?_
  refine s_istore_n (lv' := [(2, .int r1), (0, rf G 0), (1, .int a1)]) dX10_sees_5 rfl rfl rfl ?_
  refine s_aload_n 1 dX10_sees_6 rfl rfl ?_
  refine s_iconst (v := 1) dX10_sees_7 ci_1 ?_
  refine s_call_z (s_runV (ci := 10) (rest := []) rfl rfl (mX10_hasText l G (1 : Int32) M2) ok_X10_hasText k_X10_131 rfl rfl rfl rfl dX10_sees_8) fun r3 M4 => ?_
  refine s_ifneB (tgt := 16) dX10_sees_11 (by decide) ?_ ?_
  · refine s_aload_n 1 dX10_sees_16 rfl rfl ?_
    refine g_X10_25 (q := 6) rfl rfl dX10_sees_17 ?_
    refine s_bipush (v := 114) dX10_sees_20 cb_114 ?_
    refine s_iload_n 0 dX10_sees_22 rfl rfl ?_
    refine s_iast (n := 128) rfl (by decide) dX10_sees_23 ?_
    refine s_letM fun M5 => ?_
    refine s_aload_n 1 dX10_sees_24 rfl rfl ?_
    refine g_X10_25 (q := 6) rfl rfl dX10_sees_25 ?_
    refine s_bipush (v := 115) dX10_sees_28 cb_115 ?_
    refine s_aload_n 1 dX10_sees_30 rfl rfl ?_
    refine s_iload_n 2 dX10_sees_31 rfl rfl ?_
    refine s_iconst (v := 5) dX10_sees_32 ci_5 ?_
    refine s_call_i (s_runV (ci := 10) (rest := [.int (115 : Int32), rf G 6]) rfl rfl (mX10_its l G a1 (5 : Int32) M5) ok_X10_its k_X10_137 rfl rfl rfl rfl dX10_sees_33) fun r6 M7 => ?_
    refine s_iconst (v := -1) dX10_sees_36 ci_m1 ?_
    refine s_icmpne (tgt := 44) dX10_sees_37 (by decide) ?_ ?_
    · refine s_aload_n 1 dX10_sees_44 rfl rfl ?_
      refine s_aload_n 1 dX10_sees_45 rfl rfl ?_
      refine s_iload_n 2 dX10_sees_46 rfl rfl ?_
      refine s_iconst (v := 5) dX10_sees_47 ci_5 ?_
      refine s_call_i (s_runV (ci := 10) (rest := [rf G 0, .int (115 : Int32), rf G 6]) rfl rfl (mX10_its l G a1 (5 : Int32) M7) ok_X10_its k_X10_137 rfl rfl rfl rfl dX10_sees_48) fun r8 M9 => ?_
      refine s_iconst (v := 1) dX10_sees_51 ci_1 ?_
      refine s_call_i (s_runV (ci := 10) (rest := [.int (115 : Int32), rf G 6]) rfl rfl (mX10_of l G r8 (1 : Int32) M9) ok_X10_of k_X10_153 rfl rfl rfl rfl dX10_sees_52) fun r10 M11 => ?_
      exact s_sub [1, 2] rfl (tX10_sees_B55 l G a1 r10 (115 : Int32) M11)
    · refine s_iconst (v := 0) dX10_sees_40 ci_0 ?_
      refine s_goto (tgt := 55) dX10_sees_41 (by decide) ?_
      exact s_sub [1, 2] rfl (tX10_sees_B55 l G a1 (0 : Int32) (115 : Int32) M7)
  · refine s_iload_n 0 dX10_sees_14 rfl rfl ?_
    exact s_iret rfl dX10_sees_15
theorem dX10_toldLetter_0 : decode cX10_toldLetter 0 = .ok (.iload_n 2, 1) := by decide +kernel
theorem dX10_toldLetter_1 : decode cX10_toldLetter 1 = .ok (.bipush 7, 2) := by decide +kernel
theorem dX10_toldLetter_3 : decode cX10_toldLetter 3 = .ok (.if_icmp .ne 11, 3) := by decide +kernel
theorem dX10_toldLetter_6 : decode cX10_toldLetter 6 = .ok (.aload_n 0, 1) := by decide +kernel
theorem dX10_toldLetter_7 : decode cX10_toldLetter 7 = .ok (.iload_n 1, 1) := by decide +kernel
theorem dX10_toldLetter_8 : decode cX10_toldLetter 8 = .ok (.invokevirtual 156, 3) := by decide +kernel
theorem dX10_toldLetter_11 : decode cX10_toldLetter 11 = .ok (.goto 37, 3) := by decide +kernel
theorem dX10_toldLetter_14 : decode cX10_toldLetter 14 = .ok (.iload_n 2, 1) := by decide +kernel
theorem dX10_toldLetter_15 : decode cX10_toldLetter 15 = .ok (.bipush 8, 2) := by decide +kernel
theorem dX10_toldLetter_17 : decode cX10_toldLetter 17 = .ok (.if_icmp .ne 11, 3) := by decide +kernel
theorem dX10_toldLetter_20 : decode cX10_toldLetter 20 = .ok (.aload_n 0, 1) := by decide +kernel
theorem dX10_toldLetter_21 : decode cX10_toldLetter 21 = .ok (.iload_n 1, 1) := by decide +kernel
theorem dX10_toldLetter_22 : decode cX10_toldLetter 22 = .ok (.invokevirtual 150, 3) := by decide +kernel
theorem dX10_toldLetter_25 : decode cX10_toldLetter 25 = .ok (.goto 23, 3) := by decide +kernel
theorem dX10_toldLetter_28 : decode cX10_toldLetter 28 = .ok (.iload_n 2, 1) := by decide +kernel
theorem dX10_toldLetter_29 : decode cX10_toldLetter 29 = .ok (.bipush 9, 2) := by decide +kernel
theorem dX10_toldLetter_31 : decode cX10_toldLetter 31 = .ok (.if_icmp .ne 11, 3) := by decide +kernel
theorem dX10_toldLetter_34 : decode cX10_toldLetter 34 = .ok (.aload_n 0, 1) := by decide +kernel
theorem dX10_toldLetter_35 : decode cX10_toldLetter 35 = .ok (.iload_n 1, 1) := by decide +kernel
theorem dX10_toldLetter_36 : decode cX10_toldLetter 36 = .ok (.invokevirtual 159, 3) := by decide +kernel
theorem dX10_toldLetter_39 : decode cX10_toldLetter 39 = .ok (.goto 9, 3) := by decide +kernel
theorem dX10_toldLetter_42 : decode cX10_toldLetter 42 = .ok (.aload_n 0, 1) := by decide +kernel
theorem dX10_toldLetter_43 : decode cX10_toldLetter 43 = .ok (.iload_n 1, 1) := by decide +kernel
theorem dX10_toldLetter_44 : decode cX10_toldLetter 44 = .ok (.iload_n 2, 1) := by decide +kernel
theorem dX10_toldLetter_45 : decode cX10_toldLetter 45 = .ok (.invokevirtual 137, 3) := by decide +kernel
theorem dX10_toldLetter_48 : decode cX10_toldLetter 48 = .ok (.ireturn, 1) := by decide +kernel
def fX10_toldLetter_B48 (w0 : Int32) (M : Mm) : Option (Int32 × Mm) :=
  some (w0, M)
theorem tX10_toldLetter_B48 (l : Launch) (G : Gx) (w0 : Int32) (M : Mm) : Sim cQi l layM G 5 cX10_toldLetter RX10 3 (some .int) 48 [] [.int w0] M (fX10_toldLetter_B48 w0 M) := by
  unfold fX10_toldLetter_B48
  exact s_iret rfl dX10_toldLetter_48
def fX10_toldLetter (a1 : Int32) (a2 : Int32) (M : Mm) : Option (Int32 × Mm) :=
  if a2 = (7 : Int32) then (bd (fX10_melts a1 M) fun r7 M8 =>
  fX10_toldLetter_B48 r7 M8)
  else if a2 = (8 : Int32) then (bd (fX10_read a1 M) fun r5 M6 =>
  fX10_toldLetter_B48 r5 M6)
  else if a2 = (9 : Int32) then (bd (fX10_sees a1 M) fun r3 M4 =>
  fX10_toldLetter_B48 r3 M4)
  else bd (fX10_its a1 a2 M) fun r1 M2 =>
  fX10_toldLetter_B48 r1 M2
theorem mX10_toldLetter (l : Launch) (G : Gx) (a1 : Int32) (a2 : Int32) (M : Mm) : Mt cQi l layM G 5 yX10_toldLetter cX10_toldLetter 3 (some .int) [rf G 0, .int a1, .int a2] M (fX10_toldLetter a1 a2 M) := by
  refine Mt.of2 (own := RX10) (lv := [(0, rf G 0), (1, .int a1), (2, .int a2)]) rfl (by decide +kernel) rfl rfl ?_
  unfold fX10_toldLetter
  refine s_iload_n 2 dX10_toldLetter_0 rfl rfl ?_
  refine s_bipush (v := 7) dX10_toldLetter_1 cb_7 ?_
  refine s_icmpne (tgt := 14) dX10_toldLetter_3 (by decide) ?_ ?_
  · refine s_iload_n 2 dX10_toldLetter_14 rfl rfl ?_
    refine s_bipush (v := 8) dX10_toldLetter_15 cb_8 ?_
    refine s_icmpne (tgt := 28) dX10_toldLetter_17 (by decide) ?_ ?_
    · refine s_iload_n 2 dX10_toldLetter_28 rfl rfl ?_
      refine s_bipush (v := 9) dX10_toldLetter_29 cb_9 ?_
      refine s_icmpne (tgt := 42) dX10_toldLetter_31 (by decide) ?_ ?_
      · refine s_aload_n 0 dX10_toldLetter_42 rfl rfl ?_
        refine s_iload_n 1 dX10_toldLetter_43 rfl rfl ?_
        refine s_iload_n 2 dX10_toldLetter_44 rfl rfl ?_
        refine s_call_i (s_runV (ci := 10) (rest := []) rfl rfl (mX10_its l G a1 a2 M) ok_X10_its k_X10_137 rfl rfl rfl rfl dX10_toldLetter_45) fun r1 M2 => ?_
        exact s_sub [] rfl (tX10_toldLetter_B48 l G r1 M2)
      · refine s_aload_n 0 dX10_toldLetter_34 rfl rfl ?_
        refine s_iload_n 1 dX10_toldLetter_35 rfl rfl ?_
        refine s_call_i (s_runV (ci := 10) (rest := []) rfl rfl (mX10_sees l G a1 M) ok_X10_sees k_X10_159 rfl rfl rfl rfl dX10_toldLetter_36) fun r3 M4 => ?_
        refine s_goto (tgt := 48) dX10_toldLetter_39 (by decide) ?_
        exact s_sub [] rfl (tX10_toldLetter_B48 l G r3 M4)
    · refine s_aload_n 0 dX10_toldLetter_20 rfl rfl ?_
      refine s_iload_n 1 dX10_toldLetter_21 rfl rfl ?_
      refine s_call_i (s_runV (ci := 10) (rest := []) rfl rfl (mX10_read l G a1 M) ok_X10_read k_X10_150 rfl rfl rfl rfl dX10_toldLetter_22) fun r5 M6 => ?_
      refine s_goto (tgt := 48) dX10_toldLetter_25 (by decide) ?_
      exact s_sub [] rfl (tX10_toldLetter_B48 l G r5 M6)
  · refine s_aload_n 0 dX10_toldLetter_6 rfl rfl ?_
    refine s_iload_n 1 dX10_toldLetter_7 rfl rfl ?_
    refine s_call_i (s_runV (ci := 10) (rest := []) rfl rfl (mX10_melts l G a1 M) ok_X10_melts k_X10_156 rfl rfl rfl rfl dX10_toldLetter_8) fun r7 M8 => ?_
    refine s_goto (tgt := 48) dX10_toldLetter_11 (by decide) ?_
    exact s_sub [] rfl (tX10_toldLetter_B48 l G r7 M8)
theorem dX10_letterIs_0 : decode cX10_letterIs 0 = .ok (.aload_n 0, 1) := by decide +kernel
theorem dX10_letterIs_1 : decode cX10_letterIs 1 = .ok (.iload_n 1, 1) := by decide +kernel
theorem dX10_letterIs_2 : decode cX10_letterIs 2 = .ok (.invokevirtual 162, 3) := by decide +kernel
theorem dX10_letterIs_5 : decode cX10_letterIs 5 = .ok (.ifCond .eq 22, 3) := by decide +kernel
theorem dX10_letterIs_8 : decode cX10_letterIs 8 = .ok (.iload_n 2, 1) := by decide +kernel
theorem dX10_letterIs_9 : decode cX10_letterIs 9 = .ok (.iconst 0, 1) := by decide +kernel
theorem dX10_letterIs_10 : decode cX10_letterIs 10 = .ok (.bipush 9, 2) := by decide +kernel
theorem dX10_letterIs_12 : decode cX10_letterIs 12 = .ok (.invokestatic 59, 3) := by decide +kernel
theorem dX10_letterIs_15 : decode cX10_letterIs 15 = .ok (.ifCond .eq 12, 3) := by decide +kernel
theorem dX10_letterIs_18 : decode cX10_letterIs 18 = .ok (.aload_n 0, 1) := by decide +kernel
theorem dX10_letterIs_19 : decode cX10_letterIs 19 = .ok (.iload_n 1, 1) := by decide +kernel
theorem dX10_letterIs_20 : decode cX10_letterIs 20 = .ok (.iload_n 2, 1) := by decide +kernel
theorem dX10_letterIs_21 : decode cX10_letterIs 21 = .ok (.invokevirtual 165, 3) := by decide +kernel
theorem dX10_letterIs_24 : decode cX10_letterIs 24 = .ok (.goto 8, 3) := by decide +kernel
theorem dX10_letterIs_27 : decode cX10_letterIs 27 = .ok (.aload_n 0, 1) := by decide +kernel
theorem dX10_letterIs_28 : decode cX10_letterIs 28 = .ok (.iconst 1, 1) := by decide +kernel
theorem dX10_letterIs_29 : decode cX10_letterIs 29 = .ok (.invokevirtual 75, 3) := by decide +kernel
theorem dX10_letterIs_32 : decode cX10_letterIs 32 = .ok (.ireturn, 1) := by decide +kernel
def fX10_letterIs_B32 (w0 : Int32) (M : Mm) : Option (Int32 × Mm) :=
  some (w0, M)
theorem tX10_letterIs_B32 (l : Launch) (G : Gx) (w0 : Int32) (M : Mm) : Sim cQi l layM G 6 cX10_letterIs RX10 3 (some .int) 32 [] [.int w0] M (fX10_letterIs_B32 w0 M) := by
  unfold fX10_letterIs_B32
  exact s_iret rfl dX10_letterIs_32
def fX10_letterIs_B27 (M : Mm) : Option (Int32 × Mm) :=
  bd (fX10_error (1 : Int32) M) fun r7 M8 =>
  fX10_letterIs_B32 r7 M8
theorem tX10_letterIs_B27 (l : Launch) (G : Gx) (M : Mm) : Sim cQi l layM G 6 cX10_letterIs RX10 3 (some .int) 27 [(0, rf G 0)] [] M (fX10_letterIs_B27 M) := by
  unfold fX10_letterIs_B27
  refine s_aload_n 0 dX10_letterIs_27 rfl rfl ?_
  refine s_iconst (v := 1) dX10_letterIs_28 ci_1 ?_
  refine s_call_i (s_runV (ci := 10) (rest := []) rfl rfl (mX10_error l G (1 : Int32) M) ok_X10_error k_X10_75 rfl rfl rfl rfl dX10_letterIs_29) fun r7 M8 => ?_
  exact s_sub [] rfl (tX10_letterIs_B32 l G r7 M8)
def fX10_letterIs (a1 : Int32) (a2 : Int32) (M : Mm) : Option (Int32 × Mm) :=
  bd (fX10_isLetter a1 M) fun r1 M2 =>
  if r1 = true then (bd (fX10_in a2 (0 : Int32) (9 : Int32) M2) fun r3 M4 =>
  if r3 = true then (bd (fX10_toldLetter a1 a2 M4) fun r5 M6 =>
  fX10_letterIs_B32 r5 M6)
  else fX10_letterIs_B27 M4)
  else fX10_letterIs_B27 M2
theorem mX10_letterIs (l : Launch) (G : Gx) (a1 : Int32) (a2 : Int32) (M : Mm) : Mt cQi l layM G 6 yX10_letterIs cX10_letterIs 3 (some .int) [rf G 0, .int a1, .int a2] M (fX10_letterIs a1 a2 M) := by
  refine Mt.of2 (own := RX10) (lv := [(0, rf G 0), (1, .int a1), (2, .int a2)]) rfl (by decide +kernel) rfl rfl ?_
  unfold fX10_letterIs
  refine s_aload_n 0 dX10_letterIs_0 rfl rfl ?_
  refine s_iload_n 1 dX10_letterIs_1 rfl rfl ?_
  refine s_call_z (s_runV (ci := 10) (rest := []) rfl rfl (mX10_isLetter l G a1 M) ok_X10_isLetter k_X10_162 rfl rfl rfl rfl dX10_letterIs_2) fun r1 M2 => ?_
  refine s_ifeqB (tgt := 27) dX10_letterIs_5 (by decide) ?_ ?_
  · exact s_sub [0] rfl (tX10_letterIs_B27 l G M2)
  · refine s_iload_n 2 dX10_letterIs_8 rfl rfl ?_
    refine s_iconst (v := 0) dX10_letterIs_9 ci_0 ?_
    refine s_bipush (v := 9) dX10_letterIs_10 cb_9 ?_
    refine s_call_z (s_runS (rest := []) (mX10_in l G a2 (0 : Int32) (9 : Int32) M2) ok_X10_in k_X10_59 rfl rfl rfl rfl dX10_letterIs_12) fun r3 M4 => ?_
    refine s_ifeqB (tgt := 27) dX10_letterIs_15 (by decide) ?_ ?_
    · exact s_sub [0] rfl (tX10_letterIs_B27 l G M4)
    · refine s_aload_n 0 dX10_letterIs_18 rfl rfl ?_
      refine s_iload_n 1 dX10_letterIs_19 rfl rfl ?_
      refine s_iload_n 2 dX10_letterIs_20 rfl rfl ?_
      refine s_call_i (s_runV (ci := 10) (rest := []) rfl rfl (mX10_toldLetter l G a1 a2 M4) ok_X10_toldLetter k_X10_165 rfl rfl rfl rfl dX10_letterIs_21) fun r5 M6 => ?_
      refine s_goto (tgt := 32) dX10_letterIs_24 (by decide) ?_
      exact s_sub [] rfl (tX10_letterIs_B32 l G r5 M6)
theorem dX10_isUnder_0 : decode cX10_isUnder 0 = .ok (.iload_n 1, 1) := by decide +kernel
theorem dX10_isUnder_1 : decode cX10_isUnder 1 = .ok (.ifCond .eq 28, 3) := by decide +kernel
theorem dX10_isUnder_4 : decode cX10_isUnder 4 = .ok (.iload_n 0, 1) := by decide +kernel
theorem dX10_isUnder_5 : decode cX10_isUnder 5 = .ok (.iload_n 1, 1) := by decide +kernel
theorem dX10_isUnder_6 : decode cX10_isUnder 6 = .ok (.if_icmp .eq 23, 3) := by decide +kernel
theorem dX10_isUnder_9 : decode cX10_isUnder 9 = .ok (.iload_n 1, 1) := by decide +kernel
theorem dX10_isUnder_10 : decode cX10_isUnder 10 = .ok (.iconst 1, 1) := by decide +kernel
theorem dX10_isUnder_11 : decode cX10_isUnder 11 = .ok (.if_icmp .ne 8, 3) := by decide +kernel
theorem dX10_isUnder_14 : decode cX10_isUnder 14 = .ok (.iload_n 0, 1) := by decide +kernel
theorem dX10_isUnder_15 : decode cX10_isUnder 15 = .ok (.iconst 3, 1) := by decide +kernel
theorem dX10_isUnder_16 : decode cX10_isUnder 16 = .ok (.if_icmp .eq 13, 3) := by decide +kernel
theorem dX10_isUnder_19 : decode cX10_isUnder 19 = .ok (.iload_n 1, 1) := by decide +kernel
theorem dX10_isUnder_20 : decode cX10_isUnder 20 = .ok (.iconst 2, 1) := by decide +kernel
theorem dX10_isUnder_21 : decode cX10_isUnder 21 = .ok (.if_icmp .ne 12, 3) := by decide +kernel
theorem dX10_isUnder_24 : decode cX10_isUnder 24 = .ok (.iload_n 0, 1) := by decide +kernel
theorem dX10_isUnder_25 : decode cX10_isUnder 25 = .ok (.iconst 4, 1) := by decide +kernel
theorem dX10_isUnder_26 : decode cX10_isUnder 26 = .ok (.if_icmp .ne 7, 3) := by decide +kernel
theorem dX10_isUnder_29 : decode cX10_isUnder 29 = .ok (.iconst 1, 1) := by decide +kernel
theorem dX10_isUnder_30 : decode cX10_isUnder 30 = .ok (.goto 4, 3) := by decide +kernel
theorem dX10_isUnder_33 : decode cX10_isUnder 33 = .ok (.iconst 0, 1) := by decide +kernel
theorem dX10_isUnder_34 : decode cX10_isUnder 34 = .ok (.ireturn, 1) := by decide +kernel
def fX10_isUnder_B34 (w0 : Int32) (M : Mm) : Option (Bool × Mm) :=
  gd (isb w0) (some (decide (w0 = 1), M))
theorem tX10_isUnder_B34 (l : Launch) (G : Gx) (w0 : Int32) (M : Mm) : Sim cQz l layM G 1 cX10_isUnder RX10 2 (some .boolean) 34 [] [.int w0] M (fX10_isUnder_B34 w0 M) := by
  unfold fX10_isUnder_B34
  exact s_zretI rfl dX10_isUnder_34
def fX10_isUnder_B29 (M : Mm) : Option (Bool × Mm) :=
  fX10_isUnder_B34 (1 : Int32) M
theorem tX10_isUnder_B29 (l : Launch) (G : Gx) (M : Mm) : Sim cQz l layM G 1 cX10_isUnder RX10 2 (some .boolean) 29 [] [] M (fX10_isUnder_B29 M) := by
  unfold fX10_isUnder_B29
  refine s_iconst (v := 1) dX10_isUnder_29 ci_1 ?_
  refine s_goto (tgt := 34) dX10_isUnder_30 (by decide) ?_
  exact s_sub [] rfl (tX10_isUnder_B34 l G (1 : Int32) M)
def fX10_isUnder_B33 (M : Mm) : Option (Bool × Mm) :=
  fX10_isUnder_B34 (0 : Int32) M
theorem tX10_isUnder_B33 (l : Launch) (G : Gx) (M : Mm) : Sim cQz l layM G 1 cX10_isUnder RX10 2 (some .boolean) 33 [] [] M (fX10_isUnder_B33 M) := by
  unfold fX10_isUnder_B33
  refine s_iconst (v := 0) dX10_isUnder_33 ci_0 ?_
  exact s_sub [] rfl (tX10_isUnder_B34 l G (0 : Int32) M)
def fX10_isUnder_B19 (v0 : Int32) (v1 : Int32) (M : Mm) : Option (Bool × Mm) :=
  if v1 = (2 : Int32) then (if v0 = (4 : Int32) then (fX10_isUnder_B29 M)
  else fX10_isUnder_B33 M)
  else fX10_isUnder_B33 M
theorem tX10_isUnder_B19 (l : Launch) (G : Gx) (v0 : Int32) (v1 : Int32) (M : Mm) : Sim cQz l layM G 1 cX10_isUnder RX10 2 (some .boolean) 19 [(0, .int v0), (1, .int v1)] [] M (fX10_isUnder_B19 v0 v1 M) := by
  unfold fX10_isUnder_B19
  refine s_iload_n 1 dX10_isUnder_19 rfl rfl ?_
  refine s_iconst (v := 2) dX10_isUnder_20 ci_2 ?_
  refine s_icmpne (tgt := 33) dX10_isUnder_21 (by decide) ?_ ?_
  · exact s_sub [] rfl (tX10_isUnder_B33 l G M)
  · refine s_iload_n 0 dX10_isUnder_24 rfl rfl ?_
    refine s_iconst (v := 4) dX10_isUnder_25 ci_4 ?_
    refine s_icmpne (tgt := 33) dX10_isUnder_26 (by decide) ?_ ?_
    · exact s_sub [] rfl (tX10_isUnder_B33 l G M)
    · exact s_sub [] rfl (tX10_isUnder_B29 l G M)
def fX10_isUnder (a1 : Int32) (a2 : Int32) (M : Mm) : Option (Bool × Mm) :=
  if a2 = 0 then (fX10_isUnder_B29 M)
  else if a1 = a2 then (fX10_isUnder_B29 M)
  else if a2 = (1 : Int32) then (if a1 = (3 : Int32) then (fX10_isUnder_B29 M)
  else fX10_isUnder_B19 a1 a2 M)
  else fX10_isUnder_B19 a1 a2 M
theorem mX10_isUnder (l : Launch) (G : Gx) (a1 : Int32) (a2 : Int32) (M : Mm) : Mt cQz l layM G 1 yX10_isUnder cX10_isUnder 2 (some .boolean) [.int a1, .int a2] M (fX10_isUnder a1 a2 M) := by
  refine Mt.of2 (own := RX10) (lv := [(0, .int a1), (1, .int a2)]) rfl (by decide +kernel) rfl rfl ?_
  unfold fX10_isUnder
  refine s_iload_n 1 dX10_isUnder_0 rfl rfl ?_
  refine s_ifeq (tgt := 29) dX10_isUnder_1 (by decide) ?_ ?_
  · exact s_sub [] rfl (tX10_isUnder_B29 l G M)
  · refine s_iload_n 0 dX10_isUnder_4 rfl rfl ?_
    refine s_iload_n 1 dX10_isUnder_5 rfl rfl ?_
    refine s_icmpeq (tgt := 29) dX10_isUnder_6 (by decide) ?_ ?_
    · exact s_sub [] rfl (tX10_isUnder_B29 l G M)
    · refine s_iload_n 1 dX10_isUnder_9 rfl rfl ?_
      refine s_iconst (v := 1) dX10_isUnder_10 ci_1 ?_
      refine s_icmpne (tgt := 19) dX10_isUnder_11 (by decide) ?_ ?_
      · exact s_sub [0, 1] rfl (tX10_isUnder_B19 l G a1 a2 M)
      · refine s_iload_n 0 dX10_isUnder_14 rfl rfl ?_
        refine s_iconst (v := 3) dX10_isUnder_15 ci_3 ?_
        refine s_icmpeq (tgt := 29) dX10_isUnder_16 (by decide) ?_ ?_
        · exact s_sub [] rfl (tX10_isUnder_B29 l G M)
        · exact s_sub [0, 1] rfl (tX10_isUnder_B19 l G a1 a2 M)
theorem dX10_as_0 : decode cX10_as 0 = .ok (.aload_n 0, 1) := by decide +kernel
theorem dX10_as_1 : decode cX10_as 1 = .ok (.iload_n 1, 1) := by decide +kernel
theorem dX10_as_2 : decode cX10_as 2 = .ok (.invokevirtual 162, 3) := by decide +kernel
theorem dX10_as_5 : decode cX10_as 5 = .ok (.ifCond .eq 13, 3) := by decide +kernel
theorem dX10_as_8 : decode cX10_as 8 = .ok (.iload_n 2, 1) := by decide +kernel
theorem dX10_as_9 : decode cX10_as 9 = .ok (.iconst 0, 1) := by decide +kernel
theorem dX10_as_10 : decode cX10_as 10 = .ok (.bipush 6, 2) := by decide +kernel
theorem dX10_as_12 : decode cX10_as 12 = .ok (.invokestatic 59, 3) := by decide +kernel
theorem dX10_as_15 : decode cX10_as 15 = .ok (.ifCond .ne 9, 3) := by decide +kernel
theorem dX10_as_18 : decode cX10_as 18 = .ok (.aload_n 0, 1) := by decide +kernel
theorem dX10_as_19 : decode cX10_as 19 = .ok (.iconst 1, 1) := by decide +kernel
theorem dX10_as_20 : decode cX10_as 20 = .ok (.invokevirtual 75, 3) := by decide +kernel
theorem dX10_as_23 : decode cX10_as 23 = .ok (.ireturn, 1) := by decide +kernel
theorem dX10_as_24 : decode cX10_as 24 = .ok (.aload_n 0, 1) := by decide +kernel
theorem dX10_as_25 : decode cX10_as 25 = .ok (.iload_n 1, 1) := by decide +kernel
theorem dX10_as_26 : decode cX10_as 26 = .ok (.iconst 0, 1) := by decide +kernel
theorem dX10_as_27 : decode cX10_as 27 = .ok (.invokevirtual 137, 3) := by decide +kernel
theorem dX10_as_30 : decode cX10_as 30 = .ok (.iload_n 2, 1) := by decide +kernel
theorem dX10_as_31 : decode cX10_as 31 = .ok (.invokestatic 168, 3) := by decide +kernel
theorem dX10_as_34 : decode cX10_as 34 = .ok (.ifCond .eq 12, 3) := by decide +kernel
theorem dX10_as_37 : decode cX10_as 37 = .ok (.aload_n 0, 1) := by decide +kernel
theorem dX10_as_38 : decode cX10_as 38 = .ok (.iload_n 1, 1) := by decide +kernel
theorem dX10_as_39 : decode cX10_as 39 = .ok (.iconst 3, 1) := by decide +kernel
theorem dX10_as_40 : decode cX10_as 40 = .ok (.invokevirtual 137, 3) := by decide +kernel
theorem dX10_as_43 : decode cX10_as 43 = .ok (.goto 8, 3) := by decide +kernel
theorem dX10_as_46 : decode cX10_as 46 = .ok (.aload_n 0, 1) := by decide +kernel
theorem dX10_as_47 : decode cX10_as 47 = .ok (.iconst 5, 1) := by decide +kernel
theorem dX10_as_48 : decode cX10_as 48 = .ok (.invokevirtual 75, 3) := by decide +kernel
theorem dX10_as_51 : decode cX10_as 51 = .ok (.ireturn, 1) := by decide +kernel
def fX10_as_B18 (M : Mm) : Option (Int32 × Mm) :=
  bd (fX10_error (1 : Int32) M) fun r5 M6 =>
  some (r5, M6)
theorem tX10_as_B18 (l : Launch) (G : Gx) (M : Mm) : Sim cQi l layM G 3 cX10_as RX10 3 (some .int) 18 [(0, rf G 0)] [] M (fX10_as_B18 M) := by
  unfold fX10_as_B18
  refine s_aload_n 0 dX10_as_18 rfl rfl ?_
  refine s_iconst (v := 1) dX10_as_19 ci_1 ?_
  refine s_call_i (s_runV (ci := 10) (rest := []) rfl rfl (mX10_error l G (1 : Int32) M) ok_X10_error k_X10_75 rfl rfl rfl rfl dX10_as_20) fun r5 M6 => ?_
  exact s_iret rfl dX10_as_23
def fX10_as_B51 (w0 : Int32) (M : Mm) : Option (Int32 × Mm) :=
  some (w0, M)
theorem tX10_as_B51 (l : Launch) (G : Gx) (w0 : Int32) (M : Mm) : Sim cQi l layM G 3 cX10_as RX10 3 (some .int) 51 [] [.int w0] M (fX10_as_B51 w0 M) := by
  unfold fX10_as_B51
  exact s_iret rfl dX10_as_51
def fX10_as (a1 : Int32) (a2 : Int32) (M : Mm) : Option (Int32 × Mm) :=
  bd (fX10_isLetter a1 M) fun r1 M2 =>
  if r1 = true then (bd (fX10_in a2 (0 : Int32) (6 : Int32) M2) fun r3 M4 =>
  if r3 = true then (bd (fX10_its a1 (0 : Int32) M4) fun r7 M8 =>
  bd (fX10_isUnder r7 a2 M8) fun r9 M10 =>
  if r9 = true then (bd (fX10_its a1 (3 : Int32) M10) fun r11 M12 =>
  fX10_as_B51 r11 M12)
  else bd (fX10_error (5 : Int32) M10) fun r13 M14 =>
  fX10_as_B51 r13 M14)
  else fX10_as_B18 M4)
  else fX10_as_B18 M2
theorem mX10_as (l : Launch) (G : Gx) (a1 : Int32) (a2 : Int32) (M : Mm) : Mt cQi l layM G 3 yX10_as cX10_as 3 (some .int) [rf G 0, .int a1, .int a2] M (fX10_as a1 a2 M) := by
  refine Mt.of2 (own := RX10) (lv := [(0, rf G 0), (1, .int a1), (2, .int a2)]) rfl (by decide +kernel) rfl rfl ?_
  unfold fX10_as
  refine s_aload_n 0 dX10_as_0 rfl rfl ?_
  refine s_iload_n 1 dX10_as_1 rfl rfl ?_
  refine s_call_z (s_runV (ci := 10) (rest := []) rfl rfl (mX10_isLetter l G a1 M) ok_X10_isLetter k_X10_162 rfl rfl rfl rfl dX10_as_2) fun r1 M2 => ?_
  refine s_ifeqB (tgt := 18) dX10_as_5 (by decide) ?_ ?_
  · exact s_sub [0] rfl (tX10_as_B18 l G M2)
  · refine s_iload_n 2 dX10_as_8 rfl rfl ?_
    refine s_iconst (v := 0) dX10_as_9 ci_0 ?_
    refine s_bipush (v := 6) dX10_as_10 cb_6 ?_
    refine s_call_z (s_runS (rest := []) (mX10_in l G a2 (0 : Int32) (6 : Int32) M2) ok_X10_in k_X10_59 rfl rfl rfl rfl dX10_as_12) fun r3 M4 => ?_
    refine s_ifneB (tgt := 24) dX10_as_15 (by decide) ?_ ?_
    · refine s_aload_n 0 dX10_as_24 rfl rfl ?_
      refine s_iload_n 1 dX10_as_25 rfl rfl ?_
      refine s_iconst (v := 0) dX10_as_26 ci_0 ?_
      refine s_call_i (s_runV (ci := 10) (rest := []) rfl rfl (mX10_its l G a1 (0 : Int32) M4) ok_X10_its k_X10_137 rfl rfl rfl rfl dX10_as_27) fun r7 M8 => ?_
      refine s_iload_n 2 dX10_as_30 rfl rfl ?_
      refine s_call_z (s_runS (rest := []) (mX10_isUnder l G r7 a2 M8) ok_X10_isUnder k_X10_168 rfl rfl rfl rfl dX10_as_31) fun r9 M10 => ?_
      refine s_ifeqB (tgt := 46) dX10_as_34 (by decide) ?_ ?_
      · refine s_aload_n 0 dX10_as_46 rfl rfl ?_
        refine s_iconst (v := 5) dX10_as_47 ci_5 ?_
        refine s_call_i (s_runV (ci := 10) (rest := []) rfl rfl (mX10_error l G (5 : Int32) M10) ok_X10_error k_X10_75 rfl rfl rfl rfl dX10_as_48) fun r13 M14 => ?_
        exact s_sub [] rfl (tX10_as_B51 l G r13 M14)
      · refine s_aload_n 0 dX10_as_37 rfl rfl ?_
        refine s_iload_n 1 dX10_as_38 rfl rfl ?_
        refine s_iconst (v := 3) dX10_as_39 ci_3 ?_
        refine s_call_i (s_runV (ci := 10) (rest := []) rfl rfl (mX10_its l G a1 (3 : Int32) M10) ok_X10_its k_X10_137 rfl rfl rfl rfl dX10_as_40) fun r11 M12 => ?_
        refine s_goto (tgt := 51) dX10_as_43 (by decide) ?_
        exact s_sub [] rfl (tX10_as_B51 l G r11 M12)
    · exact s_sub [0] rfl (tX10_as_B18 l G M4)
theorem dX10_set_0 : decode cX10_set 0 = .ok (.aload_n 0, 1) := by decide +kernel
theorem dX10_set_1 : decode cX10_set 1 = .ok (.iload_n 1, 1) := by decide +kernel
theorem dX10_set_2 : decode cX10_set 2 = .ok (.invokevirtual 162, 3) := by decide +kernel
theorem dX10_set_5 : decode cX10_set 5 = .ok (.ifCond .eq 27, 3) := by decide +kernel
theorem dX10_set_8 : decode cX10_set 8 = .ok (.iload_n 2, 1) := by decide +kernel
theorem dX10_set_9 : decode cX10_set 9 = .ok (.ifCond .eq 19, 3) := by decide +kernel
theorem dX10_set_12 : decode cX10_set 12 = .ok (.iload_n 2, 1) := by decide +kernel
theorem dX10_set_13 : decode cX10_set 13 = .ok (.iconst 1, 1) := by decide +kernel
theorem dX10_set_14 : decode cX10_set 14 = .ok (.if_icmp .eq 14, 3) := by decide +kernel
theorem dX10_set_17 : decode cX10_set 17 = .ok (.iload_n 2, 1) := by decide +kernel
theorem dX10_set_18 : decode cX10_set 18 = .ok (.iconst 4, 1) := by decide +kernel
theorem dX10_set_19 : decode cX10_set 19 = .ok (.if_icmp .eq 9, 3) := by decide +kernel
theorem dX10_set_22 : decode cX10_set 22 = .ok (.iload_n 2, 1) := by decide +kernel
theorem dX10_set_23 : decode cX10_set 23 = .ok (.bipush 6, 2) := by decide +kernel
theorem dX10_set_25 : decode cX10_set 25 = .ok (.if_icmp .ne 7, 3) := by decide +kernel
theorem dX10_set_28 : decode cX10_set 28 = .ok (.iconst 1, 1) := by decide +kernel
theorem dX10_set_29 : decode cX10_set 29 = .ok (.goto 4, 3) := by decide +kernel
theorem dX10_set_32 : decode cX10_set 32 = .ok (.iconst 0, 1) := by decide +kernel
theorem dX10_set_33 : decode cX10_set 33 = .ok (.istore 4, 2) := by decide +kernel
theorem dX10_set_35 : decode cX10_set 35 = .ok (.iload_n 2, 1) := by decide +kernel
theorem dX10_set_36 : decode cX10_set 36 = .ok (.ifCond .ne 8, 3) := by decide +kernel
theorem dX10_set_39 : decode cX10_set 39 = .ok (.bipush 6, 2) := by decide +kernel
theorem dX10_set_41 : decode cX10_set 41 = .ok (.goto 24, 3) := by decide +kernel
theorem dX10_set_44 : decode cX10_set 44 = .ok (.iload_n 2, 1) := by decide +kernel
theorem dX10_set_45 : decode cX10_set 45 = .ok (.iconst 1, 1) := by decide +kernel
theorem dX10_set_46 : decode cX10_set 46 = .ok (.if_icmp .ne 8, 3) := by decide +kernel
theorem dX10_set_49 : decode cX10_set 49 = .ok (.bipush 9, 2) := by decide +kernel
theorem dX10_set_51 : decode cX10_set 51 = .ok (.goto 14, 3) := by decide +kernel
theorem dX10_set_54 : decode cX10_set 54 = .ok (.iload_n 2, 1) := by decide +kernel
theorem dX10_set_55 : decode cX10_set 55 = .ok (.iconst 4, 1) := by decide +kernel
theorem dX10_set_56 : decode cX10_set 56 = .ok (.if_icmp .ne 7, 3) := by decide +kernel
theorem dX10_set_59 : decode cX10_set 59 = .ok (.iconst 3, 1) := by decide +kernel
theorem dX10_set_60 : decode cX10_set 60 = .ok (.goto 5, 3) := by decide +kernel
theorem dX10_set_63 : decode cX10_set 63 = .ok (.bipush 99, 2) := by decide +kernel
theorem dX10_set_65 : decode cX10_set 65 = .ok (.istore 5, 2) := by decide +kernel
theorem dX10_set_67 : decode cX10_set 67 = .ok (.iload 4, 2) := by decide +kernel
theorem dX10_set_69 : decode cX10_set 69 = .ok (.ifCond .eq 13, 3) := by decide +kernel
theorem dX10_set_72 : decode cX10_set 72 = .ok (.iload_n 3, 1) := by decide +kernel
theorem dX10_set_73 : decode cX10_set 73 = .ok (.iconst 0, 1) := by decide +kernel
theorem dX10_set_74 : decode cX10_set 74 = .ok (.iload 5, 2) := by decide +kernel
theorem dX10_set_76 : decode cX10_set 76 = .ok (.invokestatic 59, 3) := by decide +kernel
theorem dX10_set_79 : decode cX10_set 79 = .ok (.ifCond .ne 9, 3) := by decide +kernel
theorem dX10_set_82 : decode cX10_set 82 = .ok (.aload_n 0, 1) := by decide +kernel
theorem dX10_set_83 : decode cX10_set 83 = .ok (.iconst 1, 1) := by decide +kernel
theorem dX10_set_84 : decode cX10_set 84 = .ok (.invokevirtual 75, 3) := by decide +kernel
theorem dX10_set_87 : decode cX10_set 87 = .ok (.ireturn, 1) := by decide +kernel
theorem dX10_set_88 : decode cX10_set 88 = .ok (.aload_n 0, 1) := by decide +kernel
theorem dX10_set_89 : decode cX10_set 89 = .ok (.iload_n 1, 1) := by decide +kernel
theorem dX10_set_90 : decode cX10_set 90 = .ok (.iload_n 2, 1) := by decide +kernel
theorem dX10_set_91 : decode cX10_set 91 = .ok (.invokevirtual 137, 3) := by decide +kernel
theorem dX10_set_94 : decode cX10_set 94 = .ok (.istore 6, 2) := by decide +kernel
theorem dX10_set_96 : decode cX10_set 96 = .ok (.aload_n 0, 1) := by decide +kernel
theorem dX10_set_97 : decode cX10_set 97 = .ok (.iload_n 1, 1) := by decide +kernel
theorem dX10_set_98 : decode cX10_set 98 = .ok (.iload_n 2, 1) := by decide +kernel
theorem dX10_set_99 : decode cX10_set 99 = .ok (.iload_n 3, 1) := by decide +kernel
theorem dX10_set_100 : decode cX10_set 100 = .ok (.invokevirtual 68, 3) := by decide +kernel
theorem dX10_set_103 : decode cX10_set 103 = .ok (.iload 6, 2) := by decide +kernel
theorem dX10_set_105 : decode cX10_set 105 = .ok (.ireturn, 1) := by decide +kernel
def fX10_set_B82 (M : Mm) : Option (Int32 × Mm) :=
  bd (fX10_error (1 : Int32) M) fun r3 M4 =>
  some (r3, M4)
theorem tX10_set_B82 (l : Launch) (G : Gx) (M : Mm) : Sim cQi l layM G 3 cX10_set RX10 7 (some .int) 82 [(0, rf G 0)] [] M (fX10_set_B82 M) := by
  unfold fX10_set_B82
  refine s_aload_n 0 dX10_set_82 rfl rfl ?_
  refine s_iconst (v := 1) dX10_set_83 ci_1 ?_
  refine s_call_i (s_runV (ci := 10) (rest := []) rfl rfl (mX10_error l G (1 : Int32) M) ok_X10_error k_X10_75 rfl rfl rfl rfl dX10_set_84) fun r3 M4 => ?_
  exact s_iret rfl dX10_set_87
def fX10_set_B65 (v4 : Int32) (v1 : Int32) (v2 : Int32) (v3 : Int32) (w0 : Int32) (M : Mm) : Option (Int32 × Mm) :=
  if v4 = 0 then (fX10_set_B82 M)
  else bd (fX10_in v3 (0 : Int32) w0 M) fun r5 M6 =>
  if r5 = true then (bd (fX10_its v1 v2 M6) fun r7 M8 =>
  bd (fX10_lays1 v1 v2 v3 M8) fun r9 M10 =>
  some (r7, M10))
  else fX10_set_B82 M6
theorem tX10_set_B65 (l : Launch) (G : Gx) (v4 : Int32) (v1 : Int32) (v2 : Int32) (v3 : Int32) (w0 : Int32) (M : Mm) : Sim cQi l layM G 3 cX10_set RX10 7 (some .int) 65 [(4, .int v4), (0, rf G 0), (1, .int v1), (2, .int v2), (3, .int v3)] [.int w0] M (fX10_set_B65 v4 v1 v2 v3 w0 M) := by
  unfold fX10_set_B65
  refine s_istore (lv' := [(5, .int w0), (4, .int v4), (0, rf G 0), (1, .int v1), (2, .int v2), (3, .int v3)]) dX10_set_65 rfl rfl ?_
  refine s_iload 1 dX10_set_67 rfl ?_
  refine s_ifeq (tgt := 82) dX10_set_69 (by decide) ?_ ?_
  · exact s_sub [2] rfl (tX10_set_B82 l G M)
  · refine s_iload_n 5 dX10_set_72 rfl rfl ?_
    refine s_iconst (v := 0) dX10_set_73 ci_0 ?_
    refine s_iload 0 dX10_set_74 rfl ?_
    refine s_call_z (s_runS (rest := []) (mX10_in l G v3 (0 : Int32) w0 M) ok_X10_in k_X10_59 rfl rfl rfl rfl dX10_set_76) fun r5 M6 => ?_
    refine s_ifneB (tgt := 88) dX10_set_79 (by decide) ?_ ?_
    · refine s_aload_n 2 dX10_set_88 rfl rfl ?_
      refine s_iload_n 3 dX10_set_89 rfl rfl ?_
      refine s_iload_n 4 dX10_set_90 rfl rfl ?_
      refine s_call_i (s_runV (ci := 10) (rest := []) rfl rfl (mX10_its l G v1 v2 M6) ok_X10_its k_X10_137 rfl rfl rfl rfl dX10_set_91) fun r7 M8 => ?_
      refine s_istore (lv' := [(6, .int r7), (5, .int w0), (4, .int v4), (0, rf G 0), (1, .int v1), (2, .int v2), (3, .int v3)]) dX10_set_94 rfl rfl ?_
      refine s_aload_n 3 dX10_set_96 rfl rfl ?_
      refine s_iload_n 4 dX10_set_97 rfl rfl ?_
      refine s_iload_n 5 dX10_set_98 rfl rfl ?_
      refine s_iload_n 6 dX10_set_99 rfl rfl ?_
      refine s_call_v (s_runV (ci := 10) (rest := []) rfl rfl (mX10_lays1 l G v1 v2 v3 M8) ok_X10_lays1 k_X10_68 rfl rfl rfl rfl dX10_set_100) fun r9 M10 => ?_
      refine s_iload 0 dX10_set_103 rfl ?_
      exact s_iret rfl dX10_set_105
    · exact s_sub [2] rfl (tX10_set_B82 l G M6)
def fX10_set_B33 (v1 : Int32) (v2 : Int32) (v3 : Int32) (w0 : Int32) (M : Mm) : Option (Int32 × Mm) :=
  if v2 = 0 then (fX10_set_B65 w0 v1 v2 v3 (6 : Int32) M)
  else if v2 = (1 : Int32) then (fX10_set_B65 w0 v1 v2 v3 (9 : Int32) M)
  else if v2 = (4 : Int32) then (fX10_set_B65 w0 v1 v2 v3 (3 : Int32) M)
  else fX10_set_B65 w0 v1 v2 v3 (99 : Int32) M
theorem tX10_set_B33 (l : Launch) (G : Gx) (v1 : Int32) (v2 : Int32) (v3 : Int32) (w0 : Int32) (M : Mm) : Sim cQi l layM G 3 cX10_set RX10 7 (some .int) 33 [(0, rf G 0), (1, .int v1), (2, .int v2), (3, .int v3)] [.int w0] M (fX10_set_B33 v1 v2 v3 w0 M) := by
  unfold fX10_set_B33
  refine s_istore (lv' := [(4, .int w0), (0, rf G 0), (1, .int v1), (2, .int v2), (3, .int v3)]) dX10_set_33 rfl rfl ?_
  refine s_iload_n 3 dX10_set_35 rfl rfl ?_
  refine s_ifne (tgt := 44) dX10_set_36 (by decide) ?_ ?_
  · refine s_iload_n 3 dX10_set_44 rfl rfl ?_
    refine s_iconst (v := 1) dX10_set_45 ci_1 ?_
    refine s_icmpne (tgt := 54) dX10_set_46 (by decide) ?_ ?_
    · refine s_iload_n 3 dX10_set_54 rfl rfl ?_
      refine s_iconst (v := 4) dX10_set_55 ci_4 ?_
      refine s_icmpne (tgt := 63) dX10_set_56 (by decide) ?_ ?_
      · refine s_bipush (v := 99) dX10_set_63 cb_99 ?_
        exact s_sub [0, 1, 2, 3, 4] rfl (tX10_set_B65 l G w0 v1 v2 v3 (99 : Int32) M)
      · refine s_iconst (v := 3) dX10_set_59 ci_3 ?_
        refine s_goto (tgt := 65) dX10_set_60 (by decide) ?_
        exact s_sub [0, 1, 2, 3, 4] rfl (tX10_set_B65 l G w0 v1 v2 v3 (3 : Int32) M)
    · refine s_bipush (v := 9) dX10_set_49 cb_9 ?_
      refine s_goto (tgt := 65) dX10_set_51 (by decide) ?_
      exact s_sub [0, 1, 2, 3, 4] rfl (tX10_set_B65 l G w0 v1 v2 v3 (9 : Int32) M)
  · refine s_bipush (v := 6) dX10_set_39 cb_6 ?_
    refine s_goto (tgt := 65) dX10_set_41 (by decide) ?_
    exact s_sub [0, 1, 2, 3, 4] rfl (tX10_set_B65 l G w0 v1 v2 v3 (6 : Int32) M)
def fX10_set_B28 (v1 : Int32) (v2 : Int32) (v3 : Int32) (M : Mm) : Option (Int32 × Mm) :=
  fX10_set_B33 v1 v2 v3 (1 : Int32) M
theorem tX10_set_B28 (l : Launch) (G : Gx) (v1 : Int32) (v2 : Int32) (v3 : Int32) (M : Mm) : Sim cQi l layM G 3 cX10_set RX10 7 (some .int) 28 [(0, rf G 0), (1, .int v1), (2, .int v2), (3, .int v3)] [] M (fX10_set_B28 v1 v2 v3 M) := by
  unfold fX10_set_B28
  refine s_iconst (v := 1) dX10_set_28 ci_1 ?_
  refine s_goto (tgt := 33) dX10_set_29 (by decide) ?_
  exact s_sub [0, 1, 2, 3] rfl (tX10_set_B33 l G v1 v2 v3 (1 : Int32) M)
def fX10_set_B32 (v1 : Int32) (v2 : Int32) (v3 : Int32) (M : Mm) : Option (Int32 × Mm) :=
  fX10_set_B33 v1 v2 v3 (0 : Int32) M
theorem tX10_set_B32 (l : Launch) (G : Gx) (v1 : Int32) (v2 : Int32) (v3 : Int32) (M : Mm) : Sim cQi l layM G 3 cX10_set RX10 7 (some .int) 32 [(0, rf G 0), (1, .int v1), (2, .int v2), (3, .int v3)] [] M (fX10_set_B32 v1 v2 v3 M) := by
  unfold fX10_set_B32
  refine s_iconst (v := 0) dX10_set_32 ci_0 ?_
  exact s_sub [0, 1, 2, 3] rfl (tX10_set_B33 l G v1 v2 v3 (0 : Int32) M)
def fX10_set (a1 : Int32) (a2 : Int32) (a3 : Int32) (M : Mm) : Option (Int32 × Mm) :=
  bd (fX10_isLetter a1 M) fun r1 M2 =>
  if r1 = true then (if a2 = 0 then (fX10_set_B28 a1 a2 a3 M2)
  else if a2 = (1 : Int32) then (fX10_set_B28 a1 a2 a3 M2)
  else if a2 = (4 : Int32) then (fX10_set_B28 a1 a2 a3 M2)
  else if a2 = (6 : Int32) then (fX10_set_B28 a1 a2 a3 M2)
  else fX10_set_B32 a1 a2 a3 M2)
  else fX10_set_B32 a1 a2 a3 M2
theorem mX10_set (l : Launch) (G : Gx) (a1 : Int32) (a2 : Int32) (a3 : Int32) (M : Mm) : Mt cQi l layM G 3 yX10_set cX10_set 7 (some .int) [rf G 0, .int a1, .int a2, .int a3] M (fX10_set a1 a2 a3 M) := by
  refine Mt.of2 (own := RX10) (lv := [(0, rf G 0), (1, .int a1), (2, .int a2), (3, .int a3)]) rfl (by decide +kernel) rfl rfl ?_
  unfold fX10_set
  refine s_aload_n 0 dX10_set_0 rfl rfl ?_
  refine s_iload_n 1 dX10_set_1 rfl rfl ?_
  refine s_call_z (s_runV (ci := 10) (rest := []) rfl rfl (mX10_isLetter l G a1 M) ok_X10_isLetter k_X10_162 rfl rfl rfl rfl dX10_set_2) fun r1 M2 => ?_
  refine s_ifeqB (tgt := 32) dX10_set_5 (by decide) ?_ ?_
  · exact s_sub [0, 1, 2, 3] rfl (tX10_set_B32 l G a1 a2 a3 M2)
  · refine s_iload_n 2 dX10_set_8 rfl rfl ?_
    refine s_ifeq (tgt := 28) dX10_set_9 (by decide) ?_ ?_
    · exact s_sub [0, 1, 2, 3] rfl (tX10_set_B28 l G a1 a2 a3 M2)
    · refine s_iload_n 2 dX10_set_12 rfl rfl ?_
      refine s_iconst (v := 1) dX10_set_13 ci_1 ?_
      refine s_icmpeq (tgt := 28) dX10_set_14 (by decide) ?_ ?_
      · exact s_sub [0, 1, 2, 3] rfl (tX10_set_B28 l G a1 a2 a3 M2)
      · refine s_iload_n 2 dX10_set_17 rfl rfl ?_
        refine s_iconst (v := 4) dX10_set_18 ci_4 ?_
        refine s_icmpeq (tgt := 28) dX10_set_19 (by decide) ?_ ?_
        · exact s_sub [0, 1, 2, 3] rfl (tX10_set_B28 l G a1 a2 a3 M2)
        · refine s_iload_n 2 dX10_set_22 rfl rfl ?_
          refine s_bipush (v := 6) dX10_set_23 cb_6 ?_
          refine s_icmpne (tgt := 32) dX10_set_25 (by decide) ?_ ?_
          · exact s_sub [0, 1, 2, 3] rfl (tX10_set_B32 l G a1 a2 a3 M2)
          · exact s_sub [0, 1, 2, 3] rfl (tX10_set_B28 l G a1 a2 a3 M2)
theorem dX10_melt_0 : decode cX10_melt 0 = .ok (.aload_n 0, 1) := by decide +kernel
theorem dX10_melt_1 : decode cX10_melt 1 = .ok (.iload_n 1, 1) := by decide +kernel
theorem dX10_melt_2 : decode cX10_melt 2 = .ok (.invokevirtual 162, 3) := by decide +kernel
theorem dX10_melt_5 : decode cX10_melt 5 = .ok (.ifCond .ne 9, 3) := by decide +kernel
theorem dX10_melt_8 : decode cX10_melt 8 = .ok (.aload_n 0, 1) := by decide +kernel
theorem dX10_melt_9 : decode cX10_melt 9 = .ok (.iconst 1, 1) := by decide +kernel
theorem dX10_melt_10 : decode cX10_melt 10 = .ok (.invokevirtual 75, 3) := by decide +kernel
theorem dX10_melt_13 : decode cX10_melt 13 = .ok (.ireturn, 1) := by decide +kernel
theorem dX10_melt_14 : decode cX10_melt 14 = .ok (.aload_n 0, 1) := by decide +kernel
theorem dX10_melt_15 : decode cX10_melt 15 = .ok (.iload_n 1, 1) := by decide +kernel
theorem dX10_melt_16 : decode cX10_melt 16 = .ok (.iconst 5, 1) := by decide +kernel
theorem dX10_melt_17 : decode cX10_melt 17 = .ok (.invokevirtual 137, 3) := by decide +kernel
theorem dX10_melt_20 : decode cX10_melt 20 = .ok (.iconst (-1), 1) := by decide +kernel
theorem dX10_melt_21 : decode cX10_melt 21 = .ok (.if_icmp .eq 9, 3) := by decide +kernel
theorem dX10_melt_24 : decode cX10_melt 24 = .ok (.aload_n 0, 1) := by decide +kernel
theorem dX10_melt_25 : decode cX10_melt 25 = .ok (.iconst 3, 1) := by decide +kernel
theorem dX10_melt_26 : decode cX10_melt 26 = .ok (.invokevirtual 75, 3) := by decide +kernel
theorem dX10_melt_29 : decode cX10_melt 29 = .ok (.ireturn, 1) := by decide +kernel
theorem dX10_melt_30 : decode cX10_melt 30 = .ok (.aload_n 0, 1) := by decide +kernel
theorem dX10_melt_31 : decode cX10_melt 31 = .ok (.iload_n 1, 1) := by decide +kernel
theorem dX10_melt_32 : decode cX10_melt 32 = .ok (.iconst 3, 1) := by decide +kernel
theorem dX10_melt_33 : decode cX10_melt 33 = .ok (.invokevirtual 137, 3) := by decide +kernel
theorem dX10_melt_36 : decode cX10_melt 36 = .ok (.istore_n 2, 1) := by decide +kernel
theorem dX10_melt_37 : decode cX10_melt 37 = .ok (.aload_n 0, 1) := by decide +kernel
theorem dX10_melt_38 : decode cX10_melt 38 = .ok (.iload_n 1, 1) := by decide +kernel
theorem dX10_melt_39 : decode cX10_melt 39 = .ok (.iconst 3, 1) := by decide +kernel
theorem dX10_melt_40 : decode cX10_melt 40 = .ok (.iconst 0, 1) := by decide +kernel
theorem dX10_melt_41 : decode cX10_melt 41 = .ok (.invokevirtual 68, 3) := by decide +kernel
theorem dX10_melt_44 : decode cX10_melt 44 = .ok (.aload_n 0, 1) := by decide +kernel
theorem dX10_melt_45 : decode cX10_melt 45 = .ok (.iload_n 2, 1) := by decide +kernel
theorem dX10_melt_46 : decode cX10_melt 46 = .ok (.invokevirtual 172, 3) := by decide +kernel
theorem dX10_melt_49 : decode cX10_melt 49 = .ok (.iload_n 2, 1) := by decide +kernel
theorem dX10_melt_50 : decode cX10_melt 50 = .ok (.ireturn, 1) := by decide +kernel
