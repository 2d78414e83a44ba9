theorem dX7_letterIn_0 : decode cX7_letterIn 0 = .ok (.aload_n 0, 1) := by decide +kernel
theorem dX7_letterIn_1 : decode cX7_letterIn 1 = .ok (.getfield 24, 3) := by decide +kernel
theorem dX7_letterIn_4 : decode cX7_letterIn 4 = .ok (.aload_n 0, 1) := by decide +kernel
theorem dX7_letterIn_5 : decode cX7_letterIn 5 = .ok (.getfield 30, 3) := by decide +kernel
theorem dX7_letterIn_8 : decode cX7_letterIn 8 = .ok (.iload_n 1, 1) := by decide +kernel
theorem dX7_letterIn_9 : decode cX7_letterIn 9 = .ok (.aaload, 1) := by decide +kernel
theorem dX7_letterIn_10 : decode cX7_letterIn 10 = .ok (.iload_n 2, 1) := by decide +kernel
theorem dX7_letterIn_11 : decode cX7_letterIn 11 = .ok (.invokevirtual 162, 3) := by decide +kernel
theorem dX7_letterIn_14 : decode cX7_letterIn 14 = .ok (.iconst 0, 1) := by decide +kernel
theorem dX7_letterIn_15 : decode cX7_letterIn 15 = .ok (.bipush 23, 2) := by decide +kernel
theorem dX7_letterIn_17 : decode cX7_letterIn 17 = .ok (.invokestatic 153, 3) := by decide +kernel
theorem dX7_letterIn_20 : decode cX7_letterIn 20 = .ok (.aaload, 1) := by decide +kernel
theorem dX7_letterIn_21 : decode cX7_letterIn 21 = .ok (.areturn, 1) := by decide +kernel
def fX7_letterIn (a1 : Int32) (a2 : Int32) (M : Mm) : Option (Nat × Mm) :=
  gd (inb a1 4) <|
  gd (isC layC (29 + 2 * ix a1) 5) <|
  bd (fX5_at (29 + 2 * ix a1) a2 M) fun r3 M4 =>
  bd (fX9_hold r3 (0 : Int32) (23 : Int32) M4) fun r5 M6 =>
  gd (inb r5 24) <|
  some (4 + 1 * ix r5, M6)
theorem mX7_letterIn (l : Launch) (G : Gx) (a1 : Int32) (a2 : Int32) (M : Mm) : Mt cQr l layC G 3 yX7_letterIn cX7_letterIn 3 (some (.object RX3)) [rf G 0, .int a1, .int a2] M (fX7_letterIn a1 a2 M) := by
  refine Mt.of2 (own := RX7) (lv := [(0, rf G 0), (1, .int a1), (2, .int a2)]) rfl (by decide +kernel) rfl rfl ?_
  unfold fX7_letterIn
  refine s_aload_n 0 dX7_letterIn_0 rfl rfl ?_
  refine g_X7_24 (q := 3) rfl rfl dX7_letterIn_1 ?_
  refine s_aload_n 0 dX7_letterIn_4 rfl rfl ?_
  refine g_X7_30 (q := 28) rfl rfl dX7_letterIn_5 ?_
  refine s_iload_n 1 dX7_letterIn_8 rfl rfl ?_
  refine s_gd fun h1 => ?_
  refine s_aald (t := 2) (bs := 29) (sd := 2) (n := 4) rfl rfl h1 dX7_letterIn_9 ?_
  refine s_iload_n 2 dX7_letterIn_10 rfl rfl ?_
  refine s_gd fun h2 => ?_
  refine s_call_i (s_runV (ci := 5) (rest := [rf G 3]) h2 rfl (mX5_at l G (29 + 2 * ix a1) a2 M) ok_X5_at k_X7_162 rfl rfl rfl rfl dX7_letterIn_11) fun r3 M4 => ?_
  refine s_iconst (v := 0) dX7_letterIn_14 ci_0 ?_
  refine s_bipush (v := 23) dX7_letterIn_15 cb_23 ?_
  refine s_call_i (s_runSN (rest := [rf G 3]) (mX9_hold l G r3 (0 : Int32) (23 : Int32) M4) ok_X9_hold k_X7_153 rfl rfl rfl rfl dX7_letterIn_17) fun r5 M6 => ?_
  refine s_gd fun h7 => ?_
  refine s_aald (t := 1) (bs := 4) (sd := 1) (n := 24) rfl rfl h7 dX7_letterIn_20 ?_
  exact s_aret rfl dX7_letterIn_21
theorem dX7_sheetsAround_0 : decode cX7_sheetsAround 0 = .ok (.aload_n 1, 1) := by decide +kernel
theorem dX7_sheetsAround_1 : decode cX7_sheetsAround 1 = .ok (.getfield 124, 3) := by decide +kernel
theorem dX7_sheetsAround_4 : decode cX7_sheetsAround 4 = .ok (.invokestatic 157, 3) := by decide +kernel
theorem dX7_sheetsAround_7 : decode cX7_sheetsAround 7 = .ok (.ifCond .eq 15, 3) := by decide +kernel
theorem dX7_sheetsAround_10 : decode cX7_sheetsAround 10 = .ok (.aload_n 0, 1) := by decide +kernel
theorem dX7_sheetsAround_11 : decode cX7_sheetsAround 11 = .ok (.getfield 34, 3) := by decide +kernel
theorem dX7_sheetsAround_14 : decode cX7_sheetsAround 14 = .ok (.aload_n 1, 1) := by decide +kernel
theorem dX7_sheetsAround_15 : decode cX7_sheetsAround 15 = .ok (.getfield 124, 3) := by decide +kernel
theorem dX7_sheetsAround_18 : decode cX7_sheetsAround 18 = .ok (.iaload, 1) := by decide +kernel
theorem dX7_sheetsAround_19 : decode cX7_sheetsAround 19 = .ok (.goto 4, 3) := by decide +kernel
theorem dX7_sheetsAround_22 : decode cX7_sheetsAround 22 = .ok (.iconst 0, 1) := by decide +kernel
theorem dX7_sheetsAround_23 : decode cX7_sheetsAround 23 = .ok (.ireturn, 1) := by decide +kernel
def fX7_sheetsAround_B23 (w0 : Int32) (M : Mm) : Option (Int32 × Mm) :=
  some (w0, M)
theorem tX7_sheetsAround_B23 (l : Launch) (G : Gx) (w0 : Int32) (M : Mm) : Sim cQi l layC G 3 cX7_sheetsAround RX7 2 (some .int) 23 [] [.int w0] M (fX7_sheetsAround_B23 w0 M) := by
  unfold fX7_sheetsAround_B23
  exact s_iret rfl dX7_sheetsAround_23
def fX7_sheetsAround (a1 : Nat) (M : Mm) : Option (Int32 × Mm) :=
  gd (isC layC a1 3) <|
  bd (fX9_isPage (M a1 5) M) fun r2 M3 =>
  if r2 = true then (gd (inb (M3 a1 5) 4) <|
  fX7_sheetsAround_B23 (M3 2 (ix (M3 a1 5))) M3)
  else fX7_sheetsAround_B23 (0 : Int32) M3
theorem mX7_sheetsAround (l : Launch) (G : Gx) (a1 : Nat) (M : Mm) : Mt cQi l layC G 3 yX7_sheetsAround cX7_sheetsAround 2 (some .int) [rf G 0, rf G a1] M (fX7_sheetsAround a1 M) := by
  refine Mt.of2 (own := RX7) (lv := [(0, rf G 0), (1, rf G a1)]) rfl (by decide +kernel) rfl rfl ?_
  unfold fX7_sheetsAround
  refine s_aload_n 1 dX7_sheetsAround_0 rfl rfl ?_
  refine s_gd fun h1 => ?_
  refine g_X7_124 h1 dX7_sheetsAround_1 ?_
  refine s_call_z (s_runSN (rest := []) (mX9_isPage l G (M a1 5) M) ok_X9_isPage k_X7_157 rfl rfl rfl rfl dX7_sheetsAround_4) fun r2 M3 => ?_
  refine s_ifeqB (tgt := 22) dX7_sheetsAround_7 (by decide) ?_ ?_
  · refine s_iconst (v := 0) dX7_sheetsAround_22 ci_0 ?_
    exact s_sub [] rfl (tX7_sheetsAround_B23 l G (0 : Int32) M3)
  · refine s_aload_n 0 dX7_sheetsAround_10 rfl rfl ?_
    refine g_X7_34 (q := 2) rfl rfl dX7_sheetsAround_11 ?_
    refine s_aload_n 1 dX7_sheetsAround_14 rfl rfl ?_
    refine g_X7_124 h1 dX7_sheetsAround_15 ?_
    refine s_gd fun h4 => ?_
    refine s_iald (n := 4) rfl h4 dX7_sheetsAround_18 ?_
    refine s_goto (tgt := 23) dX7_sheetsAround_19 (by decide) ?_
    exact s_sub [] rfl (tX7_sheetsAround_B23 l G (M3 2 (ix (M3 a1 5))) M3)
theorem dX7_seesOf_0 : decode cX7_seesOf 0 = .ok (.aload_n 1, 1) := by decide +kernel
theorem dX7_seesOf_1 : decode cX7_seesOf 1 = .ok (.invokevirtual 134, 3) := by decide +kernel
theorem dX7_seesOf_4 : decode cX7_seesOf 4 = .ok (.istore_n 3, 1) := by decide +kernel
theorem dX7_seesOf_5 : decode cX7_seesOf 5 = .ok (.aload_n 0, 1) := by decide +kernel
theorem dX7_seesOf_6 : decode cX7_seesOf 6 = .ok (.getfield 44, 3) := by decide +kernel
theorem dX7_seesOf_9 : decode cX7_seesOf 9 = .ok (.invokevirtual 145, 3) := by decide +kernel
theorem dX7_seesOf_12 : decode cX7_seesOf 12 = .ok (.ifCond .eq 26, 3) := by decide +kernel
theorem dX7_seesOf_15 : decode cX7_seesOf 15 = .ok (.aload_n 0, 1) := by decide +kernel
theorem dX7_seesOf_16 : decode cX7_seesOf 16 = .ok (.getfield 44, 3) := by decide +kernel
theorem dX7_seesOf_19 : decode cX7_seesOf 19 = .ok (.iload_n 3, 1) := by decide +kernel
theorem dX7_seesOf_20 : decode cX7_seesOf 20 = .ok (.iload_n 2, 1) := by decide +kernel
theorem dX7_seesOf_21 : decode cX7_seesOf 21 = .ok (.aload_n 1, 1) := by decide +kernel
theorem dX7_seesOf_22 : decode cX7_seesOf 22 = .ok (.getfield 115, 3) := by decide +kernel
theorem dX7_seesOf_25 : decode cX7_seesOf 25 = .ok (.iconst 0, 1) := by decide +kernel
theorem dX7_seesOf_26 : decode cX7_seesOf 26 = .ok (.invokevirtual 149, 3) := by decide +kernel
theorem dX7_seesOf_29 : decode cX7_seesOf 29 = .ok (.iconst 0, 1) := by decide +kernel
theorem dX7_seesOf_30 : decode cX7_seesOf 30 = .ok (.bipush 9, 2) := by decide +kernel
theorem dX7_seesOf_32 : decode cX7_seesOf 32 = .ok (.invokestatic 153, 3) := by decide +kernel
theorem dX7_seesOf_35 : decode cX7_seesOf 35 = .ok (.goto 4, 3) := by decide +kernel
theorem dX7_seesOf_38 : decode cX7_seesOf 38 = .ok (.iload_n 3, 1) := by decide +kernel
theorem dX7_seesOf_39 : decode cX7_seesOf 39 = .ok (.ireturn, 1) := by decide +kernel
def fX7_seesOf_B39 (w0 : Int32) (M : Mm) : Option (Int32 × Mm) :=
  some (w0, M)
theorem tX7_seesOf_B39 (l : Launch) (G : Gx) (w0 : Int32) (M : Mm) : Sim cQi l layC G 3 cX7_seesOf RX7 4 (some .int) 39 [] [.int w0] M (fX7_seesOf_B39 w0 M) := by
  unfold fX7_seesOf_B39
  exact s_iret rfl dX7_seesOf_39
def fX7_seesOf (a1 : Nat) (a2 : Int32) (M : Mm) : Option (Int32 × Mm) :=
  gd (isC layC a1 3) <|
  bd (fX3_reads a1 M) fun r2 M3 =>
  bd (fX1_isTold 42 M3) fun r4 M5 =>
  if r4 = true then (bd (fX1_workOut 42 r2 a2 (M5 a1 2) (0 : Int32) M5) fun r6 M7 =>
  bd (fX9_hold r6 (0 : Int32) (9 : Int32) M7) fun r8 M9 =>
  fX7_seesOf_B39 r8 M9)
  else fX7_seesOf_B39 r2 M5
theorem mX7_seesOf (l : Launch) (G : Gx) (a1 : Nat) (a2 : Int32) (M : Mm) : Mt cQi l layC G 3 yX7_seesOf cX7_seesOf 4 (some .int) [rf G 0, rf G a1, .int a2] M (fX7_seesOf a1 a2 M) := by
  refine Mt.of2 (own := RX7) (lv := [(0, rf G 0), (1, rf G a1), (2, .int a2)]) rfl (by decide +kernel) rfl rfl ?_
  unfold fX7_seesOf
  refine s_aload_n 1 dX7_seesOf_0 rfl rfl ?_
  refine s_gd fun h1 => ?_
  refine s_call_i (s_runV (ci := 3) (rest := []) h1 rfl (mX3_reads l G a1 M) ok_X3_reads k_X7_134 rfl rfl rfl rfl dX7_seesOf_1) fun r2 M3 => ?_
  refine s_istore_n (lv' := [(3, .int r2), (0, rf G 0), (1, rf G a1), (2, .int a2)]) dX7_seesOf_4 rfl rfl rfl ?_
  refine s_aload_n 1 dX7_seesOf_5 rfl rfl ?_
  refine g_X7_44 (q := 42) rfl rfl dX7_seesOf_6 ?_
  refine s_call_z (s_runV (ci := 1) (rest := []) rfl rfl (mX1_isTold l G 42 M3) ok_X1_isTold k_X7_145 rfl rfl rfl rfl dX7_seesOf_9) fun r4 M5 => ?_
  refine s_ifeqB (tgt := 38) dX7_seesOf_12 (by decide) ?_ ?_
  · refine s_iload_n 0 dX7_seesOf_38 rfl rfl ?_
    exact s_sub [] rfl (tX7_seesOf_B39 l G r2 M5)
  · refine s_aload_n 1 dX7_seesOf_15 rfl rfl ?_
    refine g_X7_44 (q := 42) rfl rfl dX7_seesOf_16 ?_
    refine s_iload_n 0 dX7_seesOf_19 rfl rfl ?_
    refine s_iload_n 3 dX7_seesOf_20 rfl rfl ?_
    refine s_aload_n 2 dX7_seesOf_21 rfl rfl ?_
    refine g_X7_115 h1 dX7_seesOf_22 ?_
    refine s_iconst (v := 0) dX7_seesOf_25 ci_0 ?_
    refine s_call_i (s_runV (ci := 1) (rest := []) rfl rfl (mX1_workOut l G 42 r2 a2 (M5 a1 2) (0 : Int32) M5) ok_X1_workOut k_X7_149 rfl rfl rfl rfl dX7_seesOf_26) fun r6 M7 => ?_
    refine s_iconst (v := 0) dX7_seesOf_29 ci_0 ?_
    refine s_bipush (v := 9) dX7_seesOf_30 cb_9 ?_
    refine s_call_i (s_runSN (rest := []) (mX9_hold l G r6 (0 : Int32) (9 : Int32) M7) ok_X9_hold k_X7_153 rfl rfl rfl rfl dX7_seesOf_32) fun r8 M9 => ?_
    refine s_goto (tgt := 39) dX7_seesOf_35 (by decide) ?_
    exact s_sub [] rfl (tX7_seesOf_B39 l G r8 M9)
theorem dX7_meltsOf_0 : decode cX7_meltsOf 0 = .ok (.aload_n 1, 1) := by decide +kernel
theorem dX7_meltsOf_1 : decode cX7_meltsOf 1 = .ok (.getfield 121, 3) := by decide +kernel
theorem dX7_meltsOf_4 : decode cX7_meltsOf 4 = .ok (.iconst 0, 1) := by decide +kernel
theorem dX7_meltsOf_5 : decode cX7_meltsOf 5 = .ok (.iconst 3, 1) := by decide +kernel
theorem dX7_meltsOf_6 : decode cX7_meltsOf 6 = .ok (.invokestatic 89, 3) := by decide +kernel
theorem dX7_meltsOf_9 : decode cX7_meltsOf 9 = .ok (.ifCond .eq 15, 3) := by decide +kernel
theorem dX7_meltsOf_12 : decode cX7_meltsOf 12 = .ok (.aload_n 0, 1) := by decide +kernel
theorem dX7_meltsOf_13 : decode cX7_meltsOf 13 = .ok (.getfield 9, 3) := by decide +kernel
theorem dX7_meltsOf_16 : decode cX7_meltsOf 16 = .ok (.aload_n 1, 1) := by decide +kernel
theorem dX7_meltsOf_17 : decode cX7_meltsOf 17 = .ok (.getfield 121, 3) := by decide +kernel
theorem dX7_meltsOf_20 : decode cX7_meltsOf 20 = .ok (.iaload, 1) := by decide +kernel
theorem dX7_meltsOf_21 : decode cX7_meltsOf 21 = .ok (.goto 4, 3) := by decide +kernel
theorem dX7_meltsOf_24 : decode cX7_meltsOf 24 = .ok (.iconst 0, 1) := by decide +kernel
theorem dX7_meltsOf_25 : decode cX7_meltsOf 25 = .ok (.istore_n 2, 1) := by decide +kernel
theorem dX7_meltsOf_26 : decode cX7_meltsOf 26 = .ok (.iconst 0, 1) := by decide +kernel
theorem dX7_meltsOf_27 : decode cX7_meltsOf 27 = .ok (.iconst 5, 1) := by decide +kernel
theorem dX7_meltsOf_28 : decode cX7_meltsOf 28 = .ok (.iload_n 2, 1) := by decide +kernel
theorem dX7_meltsOf_29 : decode cX7_meltsOf 29 = .ok (.isub, 1) := by decide +kernel
theorem dX7_meltsOf_30 : decode cX7_meltsOf 30 = .ok (.invokestatic 142, 3) := by decide +kernel
theorem dX7_meltsOf_33 : decode cX7_meltsOf 33 = .ok (.istore_n 3, 1) := by decide +kernel
theorem dX7_meltsOf_34 : decode cX7_meltsOf 34 = .ok (.aload_n 1, 1) := by decide +kernel
theorem dX7_meltsOf_35 : decode cX7_meltsOf 35 = .ok (.getfield 109, 3) := by decide +kernel
theorem dX7_meltsOf_38 : decode cX7_meltsOf 38 = .ok (.tableswitch 142 1 6 #[38, 51, 58, 76, 90, 102], 38) := by decide +kernel
theorem dX7_meltsOf_76 : decode cX7_meltsOf 76 = .ok (.iload_n 3, 1) := by decide +kernel
theorem dX7_meltsOf_77 : decode cX7_meltsOf 77 = .ok (.aload_n 1, 1) := by decide +kernel
theorem dX7_meltsOf_78 : decode cX7_meltsOf 78 = .ok (.getfield 118, 3) := by decide +kernel
theorem dX7_meltsOf_81 : decode cX7_meltsOf 81 = .ok (.bipush 10, 2) := by decide +kernel
theorem dX7_meltsOf_83 : decode cX7_meltsOf 83 = .ok (.idiv, 1) := by decide +kernel
theorem dX7_meltsOf_84 : decode cX7_meltsOf 84 = .ok (.iadd, 1) := by decide +kernel
theorem dX7_meltsOf_85 : decode cX7_meltsOf 85 = .ok (.istore_n 3, 1) := by decide +kernel
theorem dX7_meltsOf_86 : decode cX7_meltsOf 86 = .ok (.goto 94, 3) := by decide +kernel
theorem dX7_meltsOf_89 : decode cX7_meltsOf 89 = .ok (.iload_n 3, 1) := by decide +kernel
theorem dX7_meltsOf_90 : decode cX7_meltsOf 90 = .ok (.iconst 2, 1) := by decide +kernel
theorem dX7_meltsOf_91 : decode cX7_meltsOf 91 = .ok (.idiv, 1) := by decide +kernel
theorem dX7_meltsOf_92 : decode cX7_meltsOf 92 = .ok (.istore_n 3, 1) := by decide +kernel
theorem dX7_meltsOf_93 : decode cX7_meltsOf 93 = .ok (.goto 87, 3) := by decide +kernel
theorem dX7_meltsOf_96 : decode cX7_meltsOf 96 = .ok (.iload_n 3, 1) := by decide +kernel
theorem dX7_meltsOf_97 : decode cX7_meltsOf 97 = .ok (.aload_n 1, 1) := by decide +kernel
theorem dX7_meltsOf_98 : decode cX7_meltsOf 98 = .ok (.getfield 118, 3) := by decide +kernel
theorem dX7_meltsOf_101 : decode cX7_meltsOf 101 = .ok (.bipush 10, 2) := by decide +kernel
theorem dX7_meltsOf_103 : decode cX7_meltsOf 103 = .ok (.idiv, 1) := by decide +kernel
theorem dX7_meltsOf_104 : decode cX7_meltsOf 104 = .ok (.aload_n 1, 1) := by decide +kernel
theorem dX7_meltsOf_105 : decode cX7_meltsOf 105 = .ok (.getfield 112, 3) := by decide +kernel
theorem dX7_meltsOf_108 : decode cX7_meltsOf 108 = .ok (.iadd, 1) := by decide +kernel
theorem dX7_meltsOf_109 : decode cX7_meltsOf 109 = .ok (.iadd, 1) := by decide +kernel
theorem dX7_meltsOf_110 : decode cX7_meltsOf 110 = .ok (.istore_n 3, 1) := by decide +kernel
theorem dX7_meltsOf_111 : decode cX7_meltsOf 111 = .ok (.goto 69, 3) := by decide +kernel
theorem dX7_meltsOf_114 : decode cX7_meltsOf 114 = .ok (.iload_n 3, 1) := by decide +kernel
theorem dX7_meltsOf_115 : decode cX7_meltsOf 115 = .ok (.iconst 2, 1) := by decide +kernel
theorem dX7_meltsOf_116 : decode cX7_meltsOf 116 = .ok (.idiv, 1) := by decide +kernel
theorem dX7_meltsOf_117 : decode cX7_meltsOf 117 = .ok (.aload_n 1, 1) := by decide +kernel
theorem dX7_meltsOf_118 : decode cX7_meltsOf 118 = .ok (.getfield 127, 3) := by decide +kernel
theorem dX7_meltsOf_121 : decode cX7_meltsOf 121 = .ok (.iconst 2, 1) := by decide +kernel
theorem dX7_meltsOf_122 : decode cX7_meltsOf 122 = .ok (.irem, 1) := by decide +kernel
theorem dX7_meltsOf_123 : decode cX7_meltsOf 123 = .ok (.iadd, 1) := by decide +kernel
theorem dX7_meltsOf_124 : decode cX7_meltsOf 124 = .ok (.istore_n 3, 1) := by decide +kernel
theorem dX7_meltsOf_125 : decode cX7_meltsOf 125 = .ok (.goto 55, 3) := by decide +kernel
theorem dX7_meltsOf_128 : decode cX7_meltsOf 128 = .ok (.iload_n 3, 1) := by decide +kernel
theorem dX7_meltsOf_129 : decode cX7_meltsOf 129 = .ok (.aload_n 1, 1) := by decide +kernel
theorem dX7_meltsOf_130 : decode cX7_meltsOf 130 = .ok (.getfield 127, 3) := by decide +kernel
theorem dX7_meltsOf_133 : decode cX7_meltsOf 133 = .ok (.iconst 4, 1) := by decide +kernel
theorem dX7_meltsOf_134 : decode cX7_meltsOf 134 = .ok (.idiv, 1) := by decide +kernel
theorem dX7_meltsOf_135 : decode cX7_meltsOf 135 = .ok (.iadd, 1) := by decide +kernel
theorem dX7_meltsOf_136 : decode cX7_meltsOf 136 = .ok (.istore_n 3, 1) := by decide +kernel
theorem dX7_meltsOf_137 : decode cX7_meltsOf 137 = .ok (.goto 43, 3) := by decide +kernel
theorem dX7_meltsOf_140 : decode cX7_meltsOf 140 = .ok (.aload_n 0, 1) := by decide +kernel
theorem dX7_meltsOf_141 : decode cX7_meltsOf 141 = .ok (.getfield 40, 3) := by decide +kernel
theorem dX7_meltsOf_144 : decode cX7_meltsOf 144 = .ok (.invokevirtual 145, 3) := by decide +kernel
theorem dX7_meltsOf_147 : decode cX7_meltsOf 147 = .ok (.ifCond .eq 26, 3) := by decide +kernel
theorem dX7_meltsOf_150 : decode cX7_meltsOf 150 = .ok (.aload_n 0, 1) := by decide +kernel
theorem dX7_meltsOf_151 : decode cX7_meltsOf 151 = .ok (.getfield 40, 3) := by decide +kernel
theorem dX7_meltsOf_154 : decode cX7_meltsOf 154 = .ok (.aload_n 1, 1) := by decide +kernel
theorem dX7_meltsOf_155 : decode cX7_meltsOf 155 = .ok (.getfield 118, 3) := by decide +kernel
theorem dX7_meltsOf_158 : decode cX7_meltsOf 158 = .ok (.iload_n 2, 1) := by decide +kernel
theorem dX7_meltsOf_159 : decode cX7_meltsOf 159 = .ok (.aload_n 1, 1) := by decide +kernel
theorem dX7_meltsOf_160 : decode cX7_meltsOf 160 = .ok (.getfield 127, 3) := by decide +kernel
theorem dX7_meltsOf_163 : decode cX7_meltsOf 163 = .ok (.aload_n 1, 1) := by decide +kernel
theorem dX7_meltsOf_164 : decode cX7_meltsOf 164 = .ok (.getfield 112, 3) := by decide +kernel
theorem dX7_meltsOf_167 : decode cX7_meltsOf 167 = .ok (.invokevirtual 149, 3) := by decide +kernel
theorem dX7_meltsOf_170 : decode cX7_meltsOf 170 = .ok (.goto 6, 3) := by decide +kernel
theorem dX7_meltsOf_173 : decode cX7_meltsOf 173 = .ok (.iconst 3, 1) := by decide +kernel
theorem dX7_meltsOf_174 : decode cX7_meltsOf 174 = .ok (.iload_n 2, 1) := by decide +kernel
theorem dX7_meltsOf_175 : decode cX7_meltsOf 175 = .ok (.isub, 1) := by decide +kernel
theorem dX7_meltsOf_176 : decode cX7_meltsOf 176 = .ok (.istore_n 3, 1) := by decide +kernel
theorem dX7_meltsOf_177 : decode cX7_meltsOf 177 = .ok (.goto 3, 3) := by decide +kernel
theorem dX7_meltsOf_180 : decode cX7_meltsOf 180 = .ok (.iload_n 3, 1) := by decide +kernel
theorem dX7_meltsOf_181 : decode cX7_meltsOf 181 = .ok (.iconst 0, 1) := by decide +kernel
theorem dX7_meltsOf_182 : decode cX7_meltsOf 182 = .ok (.aload_n 1, 1) := by decide +kernel
theorem dX7_meltsOf_183 : decode cX7_meltsOf 183 = .ok (.getfield 118, 3) := by decide +kernel
theorem dX7_meltsOf_186 : decode cX7_meltsOf 186 = .ok (.invokestatic 153, 3) := by decide +kernel
theorem dX7_meltsOf_189 : decode cX7_meltsOf 189 = .ok (.ireturn, 1) := by decide +kernel
def fX7_meltsOf_B180 (v3 : Int32) (v1 : Nat) (M : Mm) : Option (Int32 × Mm) :=
  gd (isC layC v1 3) <|
  bd (fX9_hold v3 (0 : Int32) (M v1 3) M) fun r10 M11 =>
  some (r10, M11)
theorem tX7_meltsOf_B180 (l : Launch) (G : Gx) (v3 : Int32) (v1 : Nat) (M : Mm) : Sim cQi l layC G 3 cX7_meltsOf RX7 4 (some .int) 180 [(3, .int v3), (1, rf G v1)] [] M (fX7_meltsOf_B180 v3 v1 M) := by
  unfold fX7_meltsOf_B180
  refine s_iload_n 0 dX7_meltsOf_180 rfl rfl ?_
  refine s_iconst (v := 0) dX7_meltsOf_181 ci_0 ?_
  refine s_aload_n 1 dX7_meltsOf_182 rfl rfl ?_
  refine s_gd fun h9 => ?_
  refine g_X7_118 h9 dX7_meltsOf_183 ?_
  refine s_call_i (s_runSN (rest := []) (mX9_hold l G v3 (0 : Int32) (M v1 3) M) ok_X9_hold k_X7_153 rfl rfl rfl rfl dX7_meltsOf_186) fun r10 M11 => ?_
  exact s_iret rfl dX7_meltsOf_189
def fX7_meltsOf_B176 (v1 : Nat) (w0 : Int32) (M : Mm) : Option (Int32 × Mm) :=
  fX7_meltsOf_B180 w0 v1 M
theorem tX7_meltsOf_B176 (l : Launch) (G : Gx) (v1 : Nat) (w0 : Int32) (M : Mm) : Sim cQi l layC G 3 cX7_meltsOf RX7 4 (some .int) 176 [(1, rf G v1)] [.int w0] M (fX7_meltsOf_B176 v1 w0 M) := by
  unfold fX7_meltsOf_B176
  refine s_istore_n (lv' := [(3, .int w0), (1, rf G v1)]) dX7_meltsOf_176 rfl rfl rfl ?_
  refine s_goto (tgt := 180) dX7_meltsOf_177 (by decide) ?_
  exact s_sub [0, 1] rfl (tX7_meltsOf_B180 l G w0 v1 M)
def fX7_meltsOf_B25 (v1 : Nat) (w0 : Int32) (M : Mm) : Option (Int32 × Mm) :=
  lt ((if (0 : Int32) < ((5 : Int32) - w0) then ((5 : Int32) - w0) else (0 : Int32))) fun x5 =>
  gd (isC layC v1 3) <|
  lt (M v1 0) fun x7 =>
  if x7 = 1 then (lt (x5 + ((M v1 3) / (10 : Int32))) fun x8 =>
  fX7_meltsOf_B180 x8 v1 M)
  else if x7 = 2 then (lt (x5 / (2 : Int32)) fun x12 =>
  fX7_meltsOf_B180 x12 v1 M)
  else if x7 = 3 then (lt (x5 + (((M v1 3) / (10 : Int32)) + (M v1 1))) fun x13 =>
  fX7_meltsOf_B180 x13 v1 M)
  else if x7 = 4 then (lt ((x5 / (2 : Int32)) + ((M v1 6) - (M v1 6) / (2 : Int32) * (2 : Int32))) fun x14 =>
  fX7_meltsOf_B180 x14 v1 M)
  else if x7 = 5 then (lt (x5 + ((M v1 6) / (4 : Int32))) fun x15 =>
  fX7_meltsOf_B180 x15 v1 M)
  else if x7 = 6 then (bd (fX1_isTold 37 M) fun r16 M17 =>
  if r16 = true then (bd (fX1_workOut 37 (M17 v1 3) w0 (M17 v1 6) (M17 v1 1) M17) fun r18 M19 =>
  fX7_meltsOf_B176 v1 r18 M19)
  else fX7_meltsOf_B176 v1 ((3 : Int32) - w0) M17)
  else fX7_meltsOf_B180 x5 v1 M
theorem tX7_meltsOf_B25 (l : Launch) (G : Gx) (v1 : Nat) (w0 : Int32) (M : Mm) : Sim cQi l layC G 3 cX7_meltsOf RX7 4 (some .int) 25 [(0, rf G 0), (1, rf G v1)] [.int w0] M (fX7_meltsOf_B25 v1 w0 M) := by
  unfold fX7_meltsOf_B25
  refine s_istore_n (lv' := [(2, .int w0), (0, rf G 0), (1, rf G v1)]) dX7_meltsOf_25 rfl rfl rfl ?_
  refine s_iconst (v := 0) dX7_meltsOf_26 ci_0 ?_
  refine s_iconst (v := 5) dX7_meltsOf_27 ci_5 ?_
  refine s_iload_n 0 dX7_meltsOf_28 rfl rfl ?_
  refine s_isub dX7_meltsOf_29 ?_
  refine s_max rfl rfl q_441 q_109 q_64 q_110 dX7_meltsOf_30 ?_
  refine s_leti fun x5 => ?_
  refine s_istore_n (lv' := [(3, .int x5), (2, .int w0), (0, rf G 0), (1, rf G v1)]) dX7_meltsOf_33 rfl rfl rfl ?_
  refine s_aload_n 3 dX7_meltsOf_34 rfl rfl ?_
  refine s_gd fun h6 => ?_
  refine g_X7_109 h6 dX7_meltsOf_35 ?_
  refine s_leti fun x7 => ?_
  refine s_table (tgt := 180) dX7_meltsOf_38 (by decide) (by decide) (by decide) ?_
  refine lk_cons (k := 1) (tgt := 76) (by decide) (by decide) ?_ ?_
  · refine s_iload_n 0 dX7_meltsOf_76 rfl rfl ?_
    refine s_aload_n 3 dX7_meltsOf_77 rfl rfl ?_
    refine g_X7_118 h6 dX7_meltsOf_78 ?_
    refine s_bipush (v := 10) dX7_meltsOf_81 cb_10 ?_
    refine s_idiv dX7_meltsOf_83 (by decide) ?_
    refine s_iadd dX7_meltsOf_84 ?_
    refine s_leti fun x8 => ?_
    refine s_istore_n (lv' := [(3, .int x8), (2, .int w0), (0, rf G 0), (1, rf G v1)]) dX7_meltsOf_85 rfl rfl rfl ?_
    refine s_goto (tgt := 180) dX7_meltsOf_86 (by decide) ?_
    exact s_sub [0, 3] rfl (tX7_meltsOf_B180 l G x8 v1 M)
  refine lk_cons (k := 2) (tgt := 89) (by decide) (by decide) ?_ ?_
  · refine s_iload_n 0 dX7_meltsOf_89 rfl rfl ?_
    refine s_iconst (v := 2) dX7_meltsOf_90 ci_2 ?_
    refine s_idiv dX7_meltsOf_91 (by decide) ?_
    refine s_leti fun x12 => ?_
    refine s_istore_n (lv' := [(3, .int x12), (2, .int w0), (0, rf G 0), (1, rf G v1)]) dX7_meltsOf_92 rfl rfl rfl ?_
    refine s_goto (tgt := 180) dX7_meltsOf_93 (by decide) ?_
    exact s_sub [0, 3] rfl (tX7_meltsOf_B180 l G x12 v1 M)
  refine lk_cons (k := 3) (tgt := 96) (by decide) (by decide) ?_ ?_
  · refine s_iload_n 0 dX7_meltsOf_96 rfl rfl ?_
    refine s_aload_n 3 dX7_meltsOf_97 rfl rfl ?_
    refine g_X7_118 h6 dX7_meltsOf_98 ?_
    refine s_bipush (v := 10) dX7_meltsOf_101 cb_10 ?_
    refine s_idiv dX7_meltsOf_103 (by decide) ?_
    refine s_aload_n 3 dX7_meltsOf_104 rfl rfl ?_
    refine g_X7_112 h6 dX7_meltsOf_105 ?_
    refine s_iadd dX7_meltsOf_108 ?_
    refine s_iadd dX7_meltsOf_109 ?_
    refine s_leti fun x13 => ?_
    refine s_istore_n (lv' := [(3, .int x13), (2, .int w0), (0, rf G 0), (1, rf G v1)]) dX7_meltsOf_110 rfl rfl rfl ?_
    refine s_goto (tgt := 180) dX7_meltsOf_111 (by decide) ?_
    exact s_sub [0, 3] rfl (tX7_meltsOf_B180 l G x13 v1 M)
  refine lk_cons (k := 4) (tgt := 114) (by decide) (by decide) ?_ ?_
  · refine s_iload_n 0 dX7_meltsOf_114 rfl rfl ?_
    refine s_iconst (v := 2) dX7_meltsOf_115 ci_2 ?_
    refine s_idiv dX7_meltsOf_116 (by decide) ?_
    refine s_aload_n 3 dX7_meltsOf_117 rfl rfl ?_
    refine g_X7_127 h6 dX7_meltsOf_118 ?_
    refine s_iconst (v := 2) dX7_meltsOf_121 ci_2 ?_
    refine s_irem dX7_meltsOf_122 (by decide) ?_
    refine s_iadd dX7_meltsOf_123 ?_
    refine s_leti fun x14 => ?_
    refine s_istore_n (lv' := [(3, .int x14), (2, .int w0), (0, rf G 0), (1, rf G v1)]) dX7_meltsOf_124 rfl rfl rfl ?_
    refine s_goto (tgt := 180) dX7_meltsOf_125 (by decide) ?_
    exact s_sub [0, 3] rfl (tX7_meltsOf_B180 l G x14 v1 M)
  refine lk_cons (k := 5) (tgt := 128) (by decide) (by decide) ?_ ?_
  · refine s_iload_n 0 dX7_meltsOf_128 rfl rfl ?_
    refine s_aload_n 3 dX7_meltsOf_129 rfl rfl ?_
    refine g_X7_127 h6 dX7_meltsOf_130 ?_
    refine s_iconst (v := 4) dX7_meltsOf_133 ci_4 ?_
    refine s_idiv dX7_meltsOf_134 (by decide) ?_
    refine s_iadd dX7_meltsOf_135 ?_
    refine s_leti fun x15 => ?_
    refine s_istore_n (lv' := [(3, .int x15), (2, .int w0), (0, rf G 0), (1, rf G v1)]) dX7_meltsOf_136 rfl rfl rfl ?_
    refine s_goto (tgt := 180) dX7_meltsOf_137 (by decide) ?_
    exact s_sub [0, 3] rfl (tX7_meltsOf_B180 l G x15 v1 M)
  refine lk_cons (k := 6) (tgt := 140) (by decide) (by decide) ?_ ?_
  · refine s_aload_n 2 dX7_meltsOf_140 rfl rfl ?_
    refine g_X7_40 (q := 37) rfl rfl dX7_meltsOf_141 ?_
    refine s_call_z (s_runV (ci := 1) (rest := []) rfl rfl (mX1_isTold l G 37 M) ok_X1_isTold k_X7_145 rfl rfl rfl rfl dX7_meltsOf_144) fun r16 M17 => ?_
    refine s_ifeqB (tgt := 173) dX7_meltsOf_147 (by decide) ?_ ?_
    · refine s_iconst (v := 3) dX7_meltsOf_173 ci_3 ?_
      refine s_iload_n 1 dX7_meltsOf_174 rfl rfl ?_
      refine s_isub dX7_meltsOf_175 ?_
      exact s_sub [3] rfl (tX7_meltsOf_B176 l G v1 ((3 : Int32) - w0) M17)
    · refine s_aload_n 2 dX7_meltsOf_150 rfl rfl ?_
      refine g_X7_40 (q := 37) rfl rfl dX7_meltsOf_151 ?_
      refine s_aload_n 3 dX7_meltsOf_154 rfl rfl ?_
      refine g_X7_118 h6 dX7_meltsOf_155 ?_
      refine s_iload_n 1 dX7_meltsOf_158 rfl rfl ?_
      refine s_aload_n 3 dX7_meltsOf_159 rfl rfl ?_
      refine g_X7_127 h6 dX7_meltsOf_160 ?_
      refine s_aload_n 3 dX7_meltsOf_163 rfl rfl ?_
      refine g_X7_112 h6 dX7_meltsOf_164 ?_
      refine s_call_i (s_runV (ci := 1) (rest := []) rfl rfl (mX1_workOut l G 37 (M17 v1 3) w0 (M17 v1 6) (M17 v1 1) M17) ok_X1_workOut k_X7_149 rfl rfl rfl rfl dX7_meltsOf_167) fun r18 M19 => ?_
      refine s_goto (tgt := 176) dX7_meltsOf_170 (by decide) ?_
      exact s_sub [3] rfl (tX7_meltsOf_B176 l G v1 r18 M19)
  refine lk_nil (tgt := 180) (by decide) ?_
  exact s_sub [0, 3] rfl (tX7_meltsOf_B180 l G x5 v1 M)
def fX7_meltsOf (a1 : Nat) (M : Mm) : Option (Int32 × Mm) :=
  gd (isC layC a1 3) <|
  bd (fX9_isWithin (M a1 4) (0 : Int32) (3 : Int32) M) fun r2 M3 =>
  if r2 = true then (gd (inb (M3 a1 4) 4) <|
  fX7_meltsOf_B25 a1 (M3 1 (ix (M3 a1 4))) M3)
  else fX7_meltsOf_B25 a1 (0 : Int32) M3
theorem mX7_meltsOf (l : Launch) (G : Gx) (a1 : Nat) (M : Mm) : Mt cQi l layC G 3 yX7_meltsOf cX7_meltsOf 4 (some .int) [rf G 0, rf G a1] M (fX7_meltsOf a1 M) := by
  refine Mt.of2 (own := RX7) (lv := [(0, rf G 0), (1, rf G a1)]) rfl (by decide +kernel) rfl rfl ?_
  unfold fX7_meltsOf
  refine s_aload_n 1 dX7_meltsOf_0 rfl rfl ?_
  refine s_gd fun h1 => ?_
  refine g_X7_121 h1 dX7_meltsOf_1 ?_
  refine s_iconst (v := 0) dX7_meltsOf_4 ci_0 ?_
  refine s_iconst (v := 3) dX7_meltsOf_5 ci_3 ?_
  refine s_call_z (s_runSN (rest := []) (mX9_isWithin l G (M a1 4) (0 : Int32) (3 : Int32) M) ok_X9_isWithin k_X7_89 rfl rfl rfl rfl dX7_meltsOf_6) fun r2 M3 => ?_
  refine s_ifeqB (tgt := 24) dX7_meltsOf_9 (by decide) ?_ ?_
  · refine s_iconst (v := 0) dX7_meltsOf_24 ci_0 ?_
    exact s_sub [0, 1] rfl (tX7_meltsOf_B25 l G a1 (0 : Int32) M3)
  · refine s_aload_n 0 dX7_meltsOf_12 rfl rfl ?_
    refine g_X7_9 (q := 1) rfl rfl dX7_meltsOf_13 ?_
    refine s_aload_n 1 dX7_meltsOf_16 rfl rfl ?_
    refine g_X7_121 h1 dX7_meltsOf_17 ?_
    refine s_gd fun h4 => ?_
    refine s_iald (n := 4) rfl h4 dX7_meltsOf_20 ?_
    refine s_goto (tgt := 25) dX7_meltsOf_21 (by decide) ?_
    exact s_sub [0, 1] rfl (tX7_meltsOf_B25 l G a1 (M3 1 (ix (M3 a1 4))) M3)
theorem dX7_takeFrom_0 : decode cX7_takeFrom 0 = .ok (.aload_n 1, 1) := by decide +kernel
theorem dX7_takeFrom_1 : decode cX7_takeFrom 1 = .ok (.getfield 9, 3) := by decide +kernel
theorem dX7_takeFrom_4 : decode cX7_takeFrom 4 = .ok (.iconst 0, 1) := by decide +kernel
theorem dX7_takeFrom_5 : decode cX7_takeFrom 5 = .ok (.aload_n 0, 1) := by decide +kernel
theorem dX7_takeFrom_6 : decode cX7_takeFrom 6 = .ok (.getfield 9, 3) := by decide +kernel
theorem dX7_takeFrom_9 : decode cX7_takeFrom 9 = .ok (.iconst 0, 1) := by decide +kernel
theorem dX7_takeFrom_10 : decode cX7_takeFrom 10 = .ok (.iconst 4, 1) := by decide +kernel
theorem dX7_takeFrom_11 : decode cX7_takeFrom 11 = .ok (.invokestatic 61, 3) := by decide +kernel
theorem dX7_takeFrom_14 : decode cX7_takeFrom 14 = .ok (.aload_n 1, 1) := by decide +kernel
theorem dX7_takeFrom_15 : decode cX7_takeFrom 15 = .ok (.getfield 34, 3) := by decide +kernel
theorem dX7_takeFrom_18 : decode cX7_takeFrom 18 = .ok (.iconst 0, 1) := by decide +kernel
theorem dX7_takeFrom_19 : decode cX7_takeFrom 19 = .ok (.aload_n 0, 1) := by decide +kernel
theorem dX7_takeFrom_20 : decode cX7_takeFrom 20 = .ok (.getfield 34, 3) := by decide +kernel
theorem dX7_takeFrom_23 : decode cX7_takeFrom 23 = .ok (.iconst 0, 1) := by decide +kernel
theorem dX7_takeFrom_24 : decode cX7_takeFrom 24 = .ok (.iconst 4, 1) := by decide +kernel
theorem dX7_takeFrom_25 : decode cX7_takeFrom 25 = .ok (.invokestatic 61, 3) := by decide +kernel
theorem dX7_takeFrom_28 : decode cX7_takeFrom 28 = .ok (.aload_n 0, 1) := by decide +kernel
theorem dX7_takeFrom_29 : decode cX7_takeFrom 29 = .ok (.aload_n 1, 1) := by decide +kernel
theorem dX7_takeFrom_30 : decode cX7_takeFrom 30 = .ok (.getfield 15, 3) := by decide +kernel
theorem dX7_takeFrom_33 : decode cX7_takeFrom 33 = .ok (.putfield 15, 3) := by decide +kernel
theorem dX7_takeFrom_36 : decode cX7_takeFrom 36 = .ok (.aload_n 0, 1) := by decide +kernel
theorem dX7_takeFrom_37 : decode cX7_takeFrom 37 = .ok (.aload_n 1, 1) := by decide +kernel
theorem dX7_takeFrom_38 : decode cX7_takeFrom 38 = .ok (.getfield 67, 3) := by decide +kernel
theorem dX7_takeFrom_41 : decode cX7_takeFrom 41 = .ok (.putfield 67, 3) := by decide +kernel
theorem dX7_takeFrom_44 : decode cX7_takeFrom 44 = .ok (.aload_n 0, 1) := by decide +kernel
theorem dX7_takeFrom_45 : decode cX7_takeFrom 45 = .ok (.aload_n 1, 1) := by decide +kernel
theorem dX7_takeFrom_46 : decode cX7_takeFrom 46 = .ok (.getfield 70, 3) := by decide +kernel
theorem dX7_takeFrom_49 : decode cX7_takeFrom 49 = .ok (.putfield 70, 3) := by decide +kernel
theorem dX7_takeFrom_52 : decode cX7_takeFrom 52 = .ok (.aload_n 0, 1) := by decide +kernel
theorem dX7_takeFrom_53 : decode cX7_takeFrom 53 = .ok (.aload_n 1, 1) := by decide +kernel
theorem dX7_takeFrom_54 : decode cX7_takeFrom 54 = .ok (.getfield 19, 3) := by decide +kernel
theorem dX7_takeFrom_57 : decode cX7_takeFrom 57 = .ok (.putfield 19, 3) := by decide +kernel
theorem dX7_takeFrom_60 : decode cX7_takeFrom 60 = .ok (.aload_n 0, 1) := by decide +kernel
theorem dX7_takeFrom_61 : decode cX7_takeFrom 61 = .ok (.aload_n 1, 1) := by decide +kernel
theorem dX7_takeFrom_62 : decode cX7_takeFrom 62 = .ok (.getfield 73, 3) := by decide +kernel
theorem dX7_takeFrom_65 : decode cX7_takeFrom 65 = .ok (.putfield 73, 3) := by decide +kernel
theorem dX7_takeFrom_68 : decode cX7_takeFrom 68 = .ok (.aload_n 0, 1) := by decide +kernel
theorem dX7_takeFrom_69 : decode cX7_takeFrom 69 = .ok (.aload_n 1, 1) := by decide +kernel
theorem dX7_takeFrom_70 : decode cX7_takeFrom 70 = .ok (.getfield 76, 3) := by decide +kernel
theorem dX7_takeFrom_73 : decode cX7_takeFrom 73 = .ok (.putfield 76, 3) := by decide +kernel
theorem dX7_takeFrom_76 : decode cX7_takeFrom 76 = .ok (.iconst 0, 1) := by decide +kernel
theorem dX7_takeFrom_77 : decode cX7_takeFrom 77 = .ok (.istore_n 2, 1) := by decide +kernel
theorem dX7_takeFrom_78 : decode cX7_takeFrom 78 = .ok (.iload_n 2, 1) := by decide +kernel
theorem dX7_takeFrom_79 : decode cX7_takeFrom 79 = .ok (.bipush 24, 2) := by decide +kernel
theorem dX7_takeFrom_81 : decode cX7_takeFrom 81 = .ok (.if_icmp .ge 24, 3) := by decide +kernel
theorem dX7_takeFrom_84 : decode cX7_takeFrom 84 = .ok (.aload_n 0, 1) := by decide +kernel
theorem dX7_takeFrom_85 : decode cX7_takeFrom 85 = .ok (.getfield 24, 3) := by decide +kernel
theorem dX7_takeFrom_88 : decode cX7_takeFrom 88 = .ok (.iload_n 2, 1) := by decide +kernel
theorem dX7_takeFrom_89 : decode cX7_takeFrom 89 = .ok (.aaload, 1) := by decide +kernel
theorem dX7_takeFrom_90 : decode cX7_takeFrom 90 = .ok (.aload_n 1, 1) := by decide +kernel
theorem dX7_takeFrom_91 : decode cX7_takeFrom 91 = .ok (.getfield 24, 3) := by decide +kernel
theorem dX7_takeFrom_94 : decode cX7_takeFrom 94 = .ok (.iload_n 2, 1) := by decide +kernel
theorem dX7_takeFrom_95 : decode cX7_takeFrom 95 = .ok (.aaload, 1) := by decide +kernel
theorem dX7_takeFrom_96 : decode cX7_takeFrom 96 = .ok (.invokevirtual 79, 3) := by decide +kernel
theorem dX7_takeFrom_99 : decode cX7_takeFrom 99 = .ok (.iinc 2 1, 3) := by decide +kernel
theorem dX7_takeFrom_102 : decode cX7_takeFrom 102 = .ok (.goto (-24), 3) := by decide +kernel
theorem dX7_takeFrom_105 : decode cX7_takeFrom 105 = .ok (.iconst 0, 1) := by decide +kernel
theorem dX7_takeFrom_106 : decode cX7_takeFrom 106 = .ok (.istore_n 2, 1) := by decide +kernel
theorem dX7_takeFrom_107 : decode cX7_takeFrom 107 = .ok (.iload_n 2, 1) := by decide +kernel
theorem dX7_takeFrom_108 : decode cX7_takeFrom 108 = .ok (.iconst 4, 1) := by decide +kernel
theorem dX7_takeFrom_109 : decode cX7_takeFrom 109 = .ok (.if_icmp .ge 24, 3) := by decide +kernel
theorem dX7_takeFrom_112 : decode cX7_takeFrom 112 = .ok (.aload_n 0, 1) := by decide +kernel
theorem dX7_takeFrom_113 : decode cX7_takeFrom 113 = .ok (.getfield 30, 3) := by decide +kernel
theorem dX7_takeFrom_116 : decode cX7_takeFrom 116 = .ok (.iload_n 2, 1) := by decide +kernel
theorem dX7_takeFrom_117 : decode cX7_takeFrom 117 = .ok (.aaload, 1) := by decide +kernel
theorem dX7_takeFrom_118 : decode cX7_takeFrom 118 = .ok (.aload_n 1, 1) := by decide +kernel
theorem dX7_takeFrom_119 : decode cX7_takeFrom 119 = .ok (.getfield 30, 3) := by decide +kernel
theorem dX7_takeFrom_122 : decode cX7_takeFrom 122 = .ok (.iload_n 2, 1) := by decide +kernel
theorem dX7_takeFrom_123 : decode cX7_takeFrom 123 = .ok (.aaload, 1) := by decide +kernel
theorem dX7_takeFrom_124 : decode cX7_takeFrom 124 = .ok (.invokevirtual 83, 3) := by decide +kernel
theorem dX7_takeFrom_127 : decode cX7_takeFrom 127 = .ok (.iinc 2 1, 3) := by decide +kernel
theorem dX7_takeFrom_130 : decode cX7_takeFrom 130 = .ok (.goto (-23), 3) := by decide +kernel
theorem dX7_takeFrom_133 : decode cX7_takeFrom 133 = .ok (.iconst 0, 1) := by decide +kernel
theorem dX7_takeFrom_134 : decode cX7_takeFrom 134 = .ok (.istore_n 2, 1) := by decide +kernel
theorem dX7_takeFrom_135 : decode cX7_takeFrom 135 = .ok (.iload_n 2, 1) := by decide +kernel
theorem dX7_takeFrom_136 : decode cX7_takeFrom 136 = .ok (.bipush 8, 2) := by decide +kernel
theorem dX7_takeFrom_138 : decode cX7_takeFrom 138 = .ok (.if_icmp .ge 24, 3) := by decide +kernel
theorem dX7_takeFrom_141 : decode cX7_takeFrom 141 = .ok (.aload_n 0, 1) := by decide +kernel
theorem dX7_takeFrom_142 : decode cX7_takeFrom 142 = .ok (.getfield 47, 3) := by decide +kernel
theorem dX7_takeFrom_145 : decode cX7_takeFrom 145 = .ok (.iload_n 2, 1) := by decide +kernel
theorem dX7_takeFrom_146 : decode cX7_takeFrom 146 = .ok (.aaload, 1) := by decide +kernel
theorem dX7_takeFrom_147 : decode cX7_takeFrom 147 = .ok (.aload_n 1, 1) := by decide +kernel
theorem dX7_takeFrom_148 : decode cX7_takeFrom 148 = .ok (.getfield 47, 3) := by decide +kernel
theorem dX7_takeFrom_151 : decode cX7_takeFrom 151 = .ok (.iload_n 2, 1) := by decide +kernel
theorem dX7_takeFrom_152 : decode cX7_takeFrom 152 = .ok (.aaload, 1) := by decide +kernel
theorem dX7_takeFrom_153 : decode cX7_takeFrom 153 = .ok (.invokevirtual 83, 3) := by decide +kernel
theorem dX7_takeFrom_156 : decode cX7_takeFrom 156 = .ok (.iinc 2 1, 3) := by decide +kernel
theorem dX7_takeFrom_159 : decode cX7_takeFrom 159 = .ok (.goto (-24), 3) := by decide +kernel
theorem dX7_takeFrom_162 : decode cX7_takeFrom 162 = .ok (.aload_n 0, 1) := by decide +kernel
theorem dX7_takeFrom_163 : decode cX7_takeFrom 163 = .ok (.getfield 40, 3) := by decide +kernel
theorem dX7_takeFrom_166 : decode cX7_takeFrom 166 = .ok (.getfield 86, 3) := by decide +kernel
theorem dX7_takeFrom_169 : decode cX7_takeFrom 169 = .ok (.aload_n 1, 1) := by decide +kernel
theorem dX7_takeFrom_170 : decode cX7_takeFrom 170 = .ok (.getfield 40, 3) := by decide +kernel
theorem dX7_takeFrom_173 : decode cX7_takeFrom 173 = .ok (.getfield 86, 3) := by decide +kernel
theorem dX7_takeFrom_176 : decode cX7_takeFrom 176 = .ok (.invokevirtual 83, 3) := by decide +kernel
theorem dX7_takeFrom_179 : decode cX7_takeFrom 179 = .ok (.aload_n 0, 1) := by decide +kernel
theorem dX7_takeFrom_180 : decode cX7_takeFrom 180 = .ok (.getfield 44, 3) := by decide +kernel
theorem dX7_takeFrom_183 : decode cX7_takeFrom 183 = .ok (.getfield 86, 3) := by decide +kernel
theorem dX7_takeFrom_186 : decode cX7_takeFrom 186 = .ok (.aload_n 1, 1) := by decide +kernel
theorem dX7_takeFrom_187 : decode cX7_takeFrom 187 = .ok (.getfield 44, 3) := by decide +kernel
theorem dX7_takeFrom_190 : decode cX7_takeFrom 190 = .ok (.getfield 86, 3) := by decide +kernel
theorem dX7_takeFrom_193 : decode cX7_takeFrom 193 = .ok (.invokevirtual 83, 3) := by decide +kernel
theorem dX7_takeFrom_196 : decode cX7_takeFrom 196 = .ok (.aload_n 0, 1) := by decide +kernel
theorem dX7_takeFrom_197 : decode cX7_takeFrom 197 = .ok (.getfield 53, 3) := by decide +kernel
theorem dX7_takeFrom_200 : decode cX7_takeFrom 200 = .ok (.aload_n 1, 1) := by decide +kernel
theorem dX7_takeFrom_201 : decode cX7_takeFrom 201 = .ok (.getfield 53, 3) := by decide +kernel
theorem dX7_takeFrom_204 : decode cX7_takeFrom 204 = .ok (.invokevirtual 83, 3) := by decide +kernel
theorem dX7_takeFrom_207 : decode cX7_takeFrom 207 = .ok (.aload_n 0, 1) := by decide +kernel
theorem dX7_takeFrom_208 : decode cX7_takeFrom 208 = .ok (.getfield 57, 3) := by decide +kernel
theorem dX7_takeFrom_211 : decode cX7_takeFrom 211 = .ok (.aload_n 1, 1) := by decide +kernel
theorem dX7_takeFrom_212 : decode cX7_takeFrom 212 = .ok (.getfield 57, 3) := by decide +kernel
theorem dX7_takeFrom_215 : decode cX7_takeFrom 215 = .ok (.invokevirtual 83, 3) := by decide +kernel
theorem dX7_takeFrom_218 : decode cX7_takeFrom 218 = .ok (.return_, 1) := by decide +kernel
def fX7_takeFrom_0_B162 (M : Mm) : Option (Unit × Mm) :=
  bd (fX5_takeFrom 38 106 M) fun r9 M10 =>
  bd (fX5_takeFrom 43 111 M10) fun r11 M12 =>
  bd (fX5_takeFrom 64 132 M12) fun r13 M14 =>
  bd (fX5_takeFrom 66 134 M14) fun r15 M16 =>
  some ((), M16)
theorem tX7_takeFrom_0_B162 (l : Launch) (G : Gx) (M : Mm) : Sim cQv l layC G 2 cX7_takeFrom RX7 3 none 162 [(0, rf G 0), (1, rf G 68)] [] M (fX7_takeFrom_0_B162 M) := by
  unfold fX7_takeFrom_0_B162
  refine s_aload_n 0 dX7_takeFrom_162 rfl rfl ?_
  refine g_X7_40 (q := 37) rfl rfl dX7_takeFrom_163 ?_
  refine g_X7_86 (q := 38) rfl rfl dX7_takeFrom_166 ?_
  refine s_aload_n 1 dX7_takeFrom_169 rfl rfl ?_
  refine g_X7_40 (q := 105) rfl rfl dX7_takeFrom_170 ?_
  refine g_X7_86 (q := 106) rfl rfl dX7_takeFrom_173 ?_
  refine s_call_v (s_runV (ci := 5) (rest := []) rfl rfl (mX5_takeFrom l G 38 106 M) ok_X5_takeFrom k_X7_83 rfl rfl rfl rfl dX7_takeFrom_176) fun r9 M10 => ?_
  refine s_aload_n 0 dX7_takeFrom_179 rfl rfl ?_
  refine g_X7_44 (q := 42) rfl rfl dX7_takeFrom_180 ?_
  refine g_X7_86 (q := 43) rfl rfl dX7_takeFrom_183 ?_
  refine s_aload_n 1 dX7_takeFrom_186 rfl rfl ?_
  refine g_X7_44 (q := 110) rfl rfl dX7_takeFrom_187 ?_
  refine g_X7_86 (q := 111) rfl rfl dX7_takeFrom_190 ?_
  refine s_call_v (s_runV (ci := 5) (rest := []) rfl rfl (mX5_takeFrom l G 43 111 M10) ok_X5_takeFrom k_X7_83 rfl rfl rfl rfl dX7_takeFrom_193) fun r11 M12 => ?_
  refine s_aload_n 0 dX7_takeFrom_196 rfl rfl ?_
  refine g_X7_53 (q := 64) rfl rfl dX7_takeFrom_197 ?_
  refine s_aload_n 1 dX7_takeFrom_200 rfl rfl ?_
  refine g_X7_53 (q := 132) rfl rfl dX7_takeFrom_201 ?_
  refine s_call_v (s_runV (ci := 5) (rest := []) rfl rfl (mX5_takeFrom l G 64 132 M12) ok_X5_takeFrom k_X7_83 rfl rfl rfl rfl dX7_takeFrom_204) fun r13 M14 => ?_
  refine s_aload_n 0 dX7_takeFrom_207 rfl rfl ?_
  refine g_X7_57 (q := 66) rfl rfl dX7_takeFrom_208 ?_
  refine s_aload_n 1 dX7_takeFrom_211 rfl rfl ?_
  refine g_X7_57 (q := 134) rfl rfl dX7_takeFrom_212 ?_
  refine s_call_v (s_runV (ci := 5) (rest := []) rfl rfl (mX5_takeFrom l G 66 134 M14) ok_X5_takeFrom k_X7_83 rfl rfl rfl rfl dX7_takeFrom_215) fun r15 M16 => ?_
  exact s_vret rfl dX7_takeFrom_218
def fX7_takeFrom_0_L135b (q135 : Int32 → Mm → Option (Unit × Mm)) (v2 : Int32) (M : Mm) : Option (Unit × Mm) :=
  if (8 : Int32) ≤ v2 then (fX7_takeFrom_0_B162 M)
  else gd (inb v2 8) <|
  gd (isC layC (48 + 2 * ix v2) 5) <|
  bd (fX5_takeFrom (48 + 2 * ix v2) (116 + 2 * ix v2) M) fun r19 M20 =>
  q135 (v2 + 1) M20
def fX7_takeFrom_0_L135  : Nat → Int32 → Mm → Option (Unit × Mm)
  | 0 => fun _ _ => none
  | n + 1 => fX7_takeFrom_0_L135b  (fX7_takeFrom_0_L135  n)
theorem tX7_takeFrom_0_L135b (l : Launch) (G : Gx) (q135 : Int32 → Mm → Option (Unit × Mm)) (hq135 : ∀ (v2 : Int32) (M : Mm), Sim cQv l layC G 2 cX7_takeFrom RX7 3 none 135 [(2, .int v2), (0, rf G 0), (1, rf G 68)] [] M (q135 v2 M)) (v2 : Int32) (M : Mm) : Sim cQv l layC G 2 cX7_takeFrom RX7 3 none 135 [(2, .int v2), (0, rf G 0), (1, rf G 68)] [] M (fX7_takeFrom_0_L135b q135 v2 M) := by
  unfold fX7_takeFrom_0_L135b
  refine s_iload_n 0 dX7_takeFrom_135 rfl rfl ?_
  refine s_bipush (v := 8) dX7_takeFrom_136 cb_8 ?_
  refine s_icmpge (tgt := 162) dX7_takeFrom_138 (by decide) ?_ ?_
  · exact s_sub [1, 2] rfl (tX7_takeFrom_0_B162 l G M)
  · refine s_aload_n 1 dX7_takeFrom_141 rfl rfl ?_
    refine g_X7_47 (q := 47) rfl rfl dX7_takeFrom_142 ?_
    refine s_iload_n 0 dX7_takeFrom_145 rfl rfl ?_
    refine s_gd fun h17 => ?_
    refine s_aald (t := 2) (bs := 48) (sd := 2) (n := 8) rfl rfl h17 dX7_takeFrom_146 ?_
    refine s_aload_n 2 dX7_takeFrom_147 rfl rfl ?_
    refine g_X7_47 (q := 115) rfl rfl dX7_takeFrom_148 ?_
    refine s_iload_n 0 dX7_takeFrom_151 rfl rfl ?_
    refine s_aald (t := 2) (bs := 116) (sd := 2) (n := 8) rfl rfl h17 dX7_takeFrom_152 ?_
    refine s_gd fun h18 => ?_
    refine s_call_v (s_runV (ci := 5) (rest := []) h18 rfl (mX5_takeFrom l G (48 + 2 * ix v2) (116 + 2 * ix v2) M) ok_X5_takeFrom k_X7_83 rfl rfl rfl rfl dX7_takeFrom_153) fun r19 M20 => ?_
    refine s_iinc (k := 0) (lv' := [(2, .int (v2 + 1)), (0, rf G 0), (1, rf G 68)]) dX7_takeFrom_156 rfl ci_1 rfl rfl ?_
    refine s_goto (tgt := 135) dX7_takeFrom_159 (by decide) ?_
    exact s_sub [0, 1, 2] rfl (hq135 (v2 + 1) M20)
theorem tX7_takeFrom_0_L135 (l : Launch) (G : Gx) : ∀ (n : Nat) (v2 : Int32) (M : Mm), Sim cQv l layC G 2 cX7_takeFrom RX7 3 none 135 [(2, .int v2), (0, rf G 0), (1, rf G 68)] [] M (fX7_takeFrom_0_L135 n v2 M)
  | 0, _, _ => s_none
  | n + 1, v2, M => tX7_takeFrom_0_L135b l G _ (tX7_takeFrom_0_L135 l G n) v2 M
def fX7_takeFrom_0_B133 (M : Mm) : Option (Unit × Mm) :=
  fX7_takeFrom_0_L135 FU (0 : Int32) M
theorem tX7_takeFrom_0_B133 (l : Launch) (G : Gx) (M : Mm) : Sim cQv l layC G 2 cX7_takeFrom RX7 3 none 133 [(0, rf G 0), (1, rf G 68)] [] M (fX7_takeFrom_0_B133 M) := by
  unfold fX7_takeFrom_0_B133
  refine s_iconst (v := 0) dX7_takeFrom_133 ci_0 ?_
  refine s_istore_n (lv' := [(2, .int (0 : Int32)), (0, rf G 0), (1, rf G 68)]) dX7_takeFrom_134 rfl rfl rfl ?_
  exact s_sub [0, 1, 2] rfl (tX7_takeFrom_0_L135 l G FU (0 : Int32) M)
def fX7_takeFrom_0_L107b (q107 : Int32 → Mm → Option (Unit × Mm)) (v2 : Int32) (M : Mm) : Option (Unit × Mm) :=
  if (4 : Int32) ≤ v2 then (fX7_takeFrom_0_B133 M)
  else gd (inb v2 4) <|
  gd (isC layC (29 + 2 * ix v2) 5) <|
  bd (fX5_takeFrom (29 + 2 * ix v2) (97 + 2 * ix v2) M) fun r23 M24 =>
  q107 (v2 + 1) M24
def fX7_takeFrom_0_L107  : Nat → Int32 → Mm → Option (Unit × Mm)
  | 0 => fun _ _ => none
  | n + 1 => fX7_takeFrom_0_L107b  (fX7_takeFrom_0_L107  n)
theorem tX7_takeFrom_0_L107b (l : Launch) (G : Gx) (q107 : Int32 → Mm → Option (Unit × Mm)) (hq107 : ∀ (v2 : Int32) (M : Mm), Sim cQv l layC G 2 cX7_takeFrom RX7 3 none 107 [(2, .int v2), (0, rf G 0), (1, rf G 68)] [] M (q107 v2 M)) (v2 : Int32) (M : Mm) : Sim cQv l layC G 2 cX7_takeFrom RX7 3 none 107 [(2, .int v2), (0, rf G 0), (1, rf G 68)] [] M (fX7_takeFrom_0_L107b q107 v2 M) := by
  unfold fX7_takeFrom_0_L107b
  refine s_iload_n 0 dX7_takeFrom_107 rfl rfl ?_
  refine s_iconst (v := 4) dX7_takeFrom_108 ci_4 ?_
  refine s_icmpge (tgt := 133) dX7_takeFrom_109 (by decide) ?_ ?_
  · exact s_sub [1, 2] rfl (tX7_takeFrom_0_B133 l G M)
  · refine s_aload_n 1 dX7_takeFrom_112 rfl rfl ?_
    refine g_X7_30 (q := 28) rfl rfl dX7_takeFrom_113 ?_
    refine s_iload_n 0 dX7_takeFrom_116 rfl rfl ?_
    refine s_gd fun h21 => ?_
    refine s_aald (t := 2) (bs := 29) (sd := 2) (n := 4) rfl rfl h21 dX7_takeFrom_117 ?_
    refine s_aload_n 2 dX7_takeFrom_118 rfl rfl ?_
    refine g_X7_30 (q := 96) rfl rfl dX7_takeFrom_119 ?_
    refine s_iload_n 0 dX7_takeFrom_122 rfl rfl ?_
    refine s_aald (t := 2) (bs := 97) (sd := 2) (n := 4) rfl rfl h21 dX7_takeFrom_123 ?_
    refine s_gd fun h22 => ?_
    refine s_call_v (s_runV (ci := 5) (rest := []) h22 rfl (mX5_takeFrom l G (29 + 2 * ix v2) (97 + 2 * ix v2) M) ok_X5_takeFrom k_X7_83 rfl rfl rfl rfl dX7_takeFrom_124) fun r23 M24 => ?_
    refine s_iinc (k := 0) (lv' := [(2, .int (v2 + 1)), (0, rf G 0), (1, rf G 68)]) dX7_takeFrom_127 rfl ci_1 rfl rfl ?_
    refine s_goto (tgt := 107) dX7_takeFrom_130 (by decide) ?_
    exact s_sub [0, 1, 2] rfl (hq107 (v2 + 1) M24)
theorem tX7_takeFrom_0_L107 (l : Launch) (G : Gx) : ∀ (n : Nat) (v2 : Int32) (M : Mm), Sim cQv l layC G 2 cX7_takeFrom RX7 3 none 107 [(2, .int v2), (0, rf G 0), (1, rf G 68)] [] M (fX7_takeFrom_0_L107 n v2 M)
  | 0, _, _ => s_none
  | n + 1, v2, M => tX7_takeFrom_0_L107b l G _ (tX7_takeFrom_0_L107 l G n) v2 M
def fX7_takeFrom_0_B105 (M : Mm) : Option (Unit × Mm) :=
  fX7_takeFrom_0_L107 FU (0 : Int32) M
theorem tX7_takeFrom_0_B105 (l : Launch) (G : Gx) (M : Mm) : Sim cQv l layC G 2 cX7_takeFrom RX7 3 none 105 [(0, rf G 0), (1, rf G 68)] [] M (fX7_takeFrom_0_B105 M) := by
  unfold fX7_takeFrom_0_B105
  refine s_iconst (v := 0) dX7_takeFrom_105 ci_0 ?_
  refine s_istore_n (lv' := [(2, .int (0 : Int32)), (0, rf G 0), (1, rf G 68)]) dX7_takeFrom_106 rfl rfl rfl ?_
  exact s_sub [0, 1, 2] rfl (tX7_takeFrom_0_L107 l G FU (0 : Int32) M)
def fX7_takeFrom_0_L78b (q78 : Int32 → Mm → Option (Unit × Mm)) (v2 : Int32) (M : Mm) : Option (Unit × Mm) :=
  if (24 : Int32) ≤ v2 then (fX7_takeFrom_0_B105 M)
  else gd (inb v2 24) <|
  gd (isC layC (4 + 1 * ix v2) 3) <|
  bd (fX3_takeFrom (4 + 1 * ix v2) (72 + 1 * ix v2) M) fun r27 M28 =>
  q78 (v2 + 1) M28
def fX7_takeFrom_0_L78  : Nat → Int32 → Mm → Option (Unit × Mm)
  | 0 => fun _ _ => none
  | n + 1 => fX7_takeFrom_0_L78b  (fX7_takeFrom_0_L78  n)
theorem tX7_takeFrom_0_L78b (l : Launch) (G : Gx) (q78 : Int32 → Mm → Option (Unit × Mm)) (hq78 : ∀ (v2 : Int32) (M : Mm), Sim cQv l layC G 2 cX7_takeFrom RX7 3 none 78 [(2, .int v2), (0, rf G 0), (1, rf G 68)] [] M (q78 v2 M)) (v2 : Int32) (M : Mm) : Sim cQv l layC G 2 cX7_takeFrom RX7 3 none 78 [(2, .int v2), (0, rf G 0), (1, rf G 68)] [] M (fX7_takeFrom_0_L78b q78 v2 M) := by
  unfold fX7_takeFrom_0_L78b
  refine s_iload_n 0 dX7_takeFrom_78 rfl rfl ?_
  refine s_bipush (v := 24) dX7_takeFrom_79 cb_24 ?_
  refine s_icmpge (tgt := 105) dX7_takeFrom_81 (by decide) ?_ ?_
  · exact s_sub [1, 2] rfl (tX7_takeFrom_0_B105 l G M)
  · refine s_aload_n 1 dX7_takeFrom_84 rfl rfl ?_
    refine g_X7_24 (q := 3) rfl rfl dX7_takeFrom_85 ?_
    refine s_iload_n 0 dX7_takeFrom_88 rfl rfl ?_
    refine s_gd fun h25 => ?_
    refine s_aald (t := 1) (bs := 4) (sd := 1) (n := 24) rfl rfl h25 dX7_takeFrom_89 ?_
    refine s_aload_n 2 dX7_takeFrom_90 rfl rfl ?_
    refine g_X7_24 (q := 71) rfl rfl dX7_takeFrom_91 ?_
    refine s_iload_n 0 dX7_takeFrom_94 rfl rfl ?_
    refine s_aald (t := 1) (bs := 72) (sd := 1) (n := 24) rfl rfl h25 dX7_takeFrom_95 ?_
    refine s_gd fun h26 => ?_
    refine s_call_v (s_runV (ci := 3) (rest := []) h26 rfl (mX3_takeFrom l G (4 + 1 * ix v2) (72 + 1 * ix v2) M) ok_X3_takeFrom k_X7_79 rfl rfl rfl rfl dX7_takeFrom_96) fun r27 M28 => ?_
    refine s_iinc (k := 0) (lv' := [(2, .int (v2 + 1)), (0, rf G 0), (1, rf G 68)]) dX7_takeFrom_99 rfl ci_1 rfl rfl ?_
    refine s_goto (tgt := 78) dX7_takeFrom_102 (by decide) ?_
    exact s_sub [0, 1, 2] rfl (hq78 (v2 + 1) M28)
theorem tX7_takeFrom_0_L78 (l : Launch) (G : Gx) : ∀ (n : Nat) (v2 : Int32) (M : Mm), Sim cQv l layC G 2 cX7_takeFrom RX7 3 none 78 [(2, .int v2), (0, rf G 0), (1, rf G 68)] [] M (fX7_takeFrom_0_L78 n v2 M)
  | 0, _, _ => s_none
  | n + 1, v2, M => tX7_takeFrom_0_L78b l G _ (tX7_takeFrom_0_L78 l G n) v2 M
def fX7_takeFrom_0  (M : Mm) : Option (Unit × Mm) :=
  lt (cpm M 69 (ix (0 : Int32)) 1 (ix (0 : Int32)) (ix (4 : Int32))) fun M1 =>
  lt (cpm M1 70 (ix (0 : Int32)) 2 (ix (0 : Int32)) (ix (4 : Int32))) fun M2 =>
  lt (wr M2 0 1 (M2 68 1)) fun M3 =>
  lt (wr M3 0 2 (M3 68 2)) fun M4 =>
  lt (wr M4 0 3 (M4 68 3)) fun M5 =>
  lt (wr M5 0 4 (M5 68 4)) fun M6 =>
  lt (wr M6 0 6 (M6 68 6)) fun M7 =>
  lt (wr M7 0 12 (M7 68 12)) fun M8 =>
  fX7_takeFrom_0_L78 FU (0 : Int32) M8
theorem mX7_takeFrom_0 (l : Launch) (G : Gx)  (M : Mm) : Mt cQv l layC G 2 yX7_takeFrom cX7_takeFrom 3 none [rf G 0, rf G 68] M (fX7_takeFrom_0 M) := by
  refine Mt.of2 (own := RX7) (lv := [(0, rf G 0), (1, rf G 68)]) rfl (by decide +kernel) rfl rfl ?_
  unfold fX7_takeFrom_0
  refine s_aload_n 1 dX7_takeFrom_0 rfl rfl ?_
  refine g_X7_9 (q := 69) rfl rfl dX7_takeFrom_1 ?_
  refine s_iconst (v := 0) dX7_takeFrom_4 ci_0 ?_
  refine s_aload_n 0 dX7_takeFrom_5 rfl rfl ?_
  refine g_X7_9 (q := 1) rfl rfl dX7_takeFrom_6 ?_
  refine s_iconst (v := 0) dX7_takeFrom_9 ci_0 ?_
  refine s_iconst (v := 4) dX7_takeFrom_10 ci_4 ?_
  refine s_copy (n0 := 4) (n1 := 4) rfl rfl (by decide) rfl rfl q_949 q_659 q_658 q_77 dX7_takeFrom_11 ?_
  refine s_letM fun M1 => ?_
  refine s_aload_n 1 dX7_takeFrom_14 rfl rfl ?_
  refine g_X7_34 (q := 70) rfl rfl dX7_takeFrom_15 ?_
  refine s_iconst (v := 0) dX7_takeFrom_18 ci_0 ?_
  refine s_aload_n 0 dX7_takeFrom_19 rfl rfl ?_
  refine g_X7_34 (q := 2) rfl rfl dX7_takeFrom_20 ?_
  refine s_iconst (v := 0) dX7_takeFrom_23 ci_0 ?_
  refine s_iconst (v := 4) dX7_takeFrom_24 ci_4 ?_
  refine s_copy (n0 := 4) (n1 := 4) rfl rfl (by decide) rfl rfl q_949 q_659 q_658 q_77 dX7_takeFrom_25 ?_
  refine s_letM fun M2 => ?_
  refine s_aload_n 0 dX7_takeFrom_28 rfl rfl ?_
  refine s_aload_n 1 dX7_takeFrom_29 rfl rfl ?_
  refine g_X7_15 rfl dX7_takeFrom_30 ?_
  refine p_X7_15 rfl dX7_takeFrom_33 ?_
  refine s_letM fun M3 => ?_
  refine s_aload_n 0 dX7_takeFrom_36 rfl rfl ?_
  refine s_aload_n 1 dX7_takeFrom_37 rfl rfl ?_
  refine g_X7_67 rfl dX7_takeFrom_38 ?_
  refine p_X7_67 rfl dX7_takeFrom_41 ?_
  refine s_letM fun M4 => ?_
  refine s_aload_n 0 dX7_takeFrom_44 rfl rfl ?_
  refine s_aload_n 1 dX7_takeFrom_45 rfl rfl ?_
  refine g_X7_70 rfl dX7_takeFrom_46 ?_
  refine p_X7_70 rfl dX7_takeFrom_49 ?_
  refine s_letM fun M5 => ?_
  refine s_aload_n 0 dX7_takeFrom_52 rfl rfl ?_
  refine s_aload_n 1 dX7_takeFrom_53 rfl rfl ?_
  refine g_X7_19 rfl dX7_takeFrom_54 ?_
  refine p_X7_19 rfl dX7_takeFrom_57 ?_
  refine s_letM fun M6 => ?_
  refine s_aload_n 0 dX7_takeFrom_60 rfl rfl ?_
  refine s_aload_n 1 dX7_takeFrom_61 rfl rfl ?_
  refine g_X7_73 rfl dX7_takeFrom_62 ?_
  refine p_X7_73 rfl dX7_takeFrom_65 ?_
  refine s_letM fun M7 => ?_
  refine s_aload_n 0 dX7_takeFrom_68 rfl rfl ?_
  refine s_aload_n 1 dX7_takeFrom_69 rfl rfl ?_
  refine g_X7_76 rfl dX7_takeFrom_70 ?_
  refine p_X7_76 rfl dX7_takeFrom_73 ?_
  refine s_letM fun M8 => ?_
  refine s_iconst (v := 0) dX7_takeFrom_76 ci_0 ?_
  refine s_istore_n (lv' := [(2, .int (0 : Int32)), (0, rf G 0), (1, rf G 68)]) dX7_takeFrom_77 rfl rfl rfl ?_
  exact s_sub [0, 1, 2] rfl (tX7_takeFrom_0_L78 l G FU (0 : Int32) M8)
def fX7_takeFrom_68_B162 (M : Mm) : Option (Unit × Mm) :=
  bd (fX5_takeFrom 106 38 M) fun r9 M10 =>
  bd (fX5_takeFrom 111 43 M10) fun r11 M12 =>
  bd (fX5_takeFrom 132 64 M12) fun r13 M14 =>
  bd (fX5_takeFrom 134 66 M14) fun r15 M16 =>
  some ((), M16)
theorem tX7_takeFrom_68_B162 (l : Launch) (G : Gx) (M : Mm) : Sim cQv l layC G 2 cX7_takeFrom RX7 3 none 162 [(0, rf G 68), (1, rf G 0)] [] M (fX7_takeFrom_68_B162 M) := by
  unfold fX7_takeFrom_68_B162
  refine s_aload_n 0 dX7_takeFrom_162 rfl rfl ?_
  refine g_X7_40 (q := 105) rfl rfl dX7_takeFrom_163 ?_
  refine g_X7_86 (q := 106) rfl rfl dX7_takeFrom_166 ?_
  refine s_aload_n 1 dX7_takeFrom_169 rfl rfl ?_
  refine g_X7_40 (q := 37) rfl rfl dX7_takeFrom_170 ?_
  refine g_X7_86 (q := 38) rfl rfl dX7_takeFrom_173 ?_
  refine s_call_v (s_runV (ci := 5) (rest := []) rfl rfl (mX5_takeFrom l G 106 38 M) ok_X5_takeFrom k_X7_83 rfl rfl rfl rfl dX7_takeFrom_176) fun r9 M10 => ?_
  refine s_aload_n 0 dX7_takeFrom_179 rfl rfl ?_
  refine g_X7_44 (q := 110) rfl rfl dX7_takeFrom_180 ?_
  refine g_X7_86 (q := 111) rfl rfl dX7_takeFrom_183 ?_
  refine s_aload_n 1 dX7_takeFrom_186 rfl rfl ?_
  refine g_X7_44 (q := 42) rfl rfl dX7_takeFrom_187 ?_
  refine g_X7_86 (q := 43) rfl rfl dX7_takeFrom_190 ?_
  refine s_call_v (s_runV (ci := 5) (rest := []) rfl rfl (mX5_takeFrom l G 111 43 M10) ok_X5_takeFrom k_X7_83 rfl rfl rfl rfl dX7_takeFrom_193) fun r11 M12 => ?_
  refine s_aload_n 0 dX7_takeFrom_196 rfl rfl ?_
  refine g_X7_53 (q := 132) rfl rfl dX7_takeFrom_197 ?_
  refine s_aload_n 1 dX7_takeFrom_200 rfl rfl ?_
  refine g_X7_53 (q := 64) rfl rfl dX7_takeFrom_201 ?_
  refine s_call_v (s_runV (ci := 5) (rest := []) rfl rfl (mX5_takeFrom l G 132 64 M12) ok_X5_takeFrom k_X7_83 rfl rfl rfl rfl dX7_takeFrom_204) fun r13 M14 => ?_
  refine s_aload_n 0 dX7_takeFrom_207 rfl rfl ?_
  refine g_X7_57 (q := 134) rfl rfl dX7_takeFrom_208 ?_
  refine s_aload_n 1 dX7_takeFrom_211 rfl rfl ?_
  refine g_X7_57 (q := 66) rfl rfl dX7_takeFrom_212 ?_
  refine s_call_v (s_runV (ci := 5) (rest := []) rfl rfl (mX5_takeFrom l G 134 66 M14) ok_X5_takeFrom k_X7_83 rfl rfl rfl rfl dX7_takeFrom_215) fun r15 M16 => ?_
  exact s_vret rfl dX7_takeFrom_218
def fX7_takeFrom_68_L135b (q135 : Int32 → Mm → Option (Unit × Mm)) (v2 : Int32) (M : Mm) : Option (Unit × Mm) :=
  if (8 : Int32) ≤ v2 then (fX7_takeFrom_68_B162 M)
  else gd (inb v2 8) <|
  gd (isC layC (116 + 2 * ix v2) 5) <|
  bd (fX5_takeFrom (116 + 2 * ix v2) (48 + 2 * ix v2) M) fun r19 M20 =>
  q135 (v2 + 1) M20
def fX7_takeFrom_68_L135  : Nat → Int32 → Mm → Option (Unit × Mm)
  | 0 => fun _ _ => none
  | n + 1 => fX7_takeFrom_68_L135b  (fX7_takeFrom_68_L135  n)
theorem tX7_takeFrom_68_L135b (l : Launch) (G : Gx) (q135 : Int32 → Mm → Option (Unit × Mm)) (hq135 : ∀ (v2 : Int32) (M : Mm), Sim cQv l layC G 2 cX7_takeFrom RX7 3 none 135 [(2, .int v2), (0, rf G 68), (1, rf G 0)] [] M (q135 v2 M)) (v2 : Int32) (M : Mm) : Sim cQv l layC G 2 cX7_takeFrom RX7 3 none 135 [(2, .int v2), (0, rf G 68), (1, rf G 0)] [] M (fX7_takeFrom_68_L135b q135 v2 M) := by
  unfold fX7_takeFrom_68_L135b
  refine s_iload_n 0 dX7_takeFrom_135 rfl rfl ?_
  refine s_bipush (v := 8) dX7_takeFrom_136 cb_8 ?_
  refine s_icmpge (tgt := 162) dX7_takeFrom_138 (by decide) ?_ ?_
  · exact s_sub [1, 2] rfl (tX7_takeFrom_68_B162 l G M)
  · refine s_aload_n 1 dX7_takeFrom_141 rfl rfl ?_
    refine g_X7_47 (q := 115) rfl rfl dX7_takeFrom_142 ?_
    refine s_iload_n 0 dX7_takeFrom_145 rfl rfl ?_
    refine s_gd fun h17 => ?_
    refine s_aald (t := 2) (bs := 116) (sd := 2) (n := 8) rfl rfl h17 dX7_takeFrom_146 ?_
    refine s_aload_n 2 dX7_takeFrom_147 rfl rfl ?_
    refine g_X7_47 (q := 47) rfl rfl dX7_takeFrom_148 ?_
    refine s_iload_n 0 dX7_takeFrom_151 rfl rfl ?_
    refine s_aald (t := 2) (bs := 48) (sd := 2) (n := 8) rfl rfl h17 dX7_takeFrom_152 ?_
    refine s_gd fun h18 => ?_
    refine s_call_v (s_runV (ci := 5) (rest := []) h18 rfl (mX5_takeFrom l G (116 + 2 * ix v2) (48 + 2 * ix v2) M) ok_X5_takeFrom k_X7_83 rfl rfl rfl rfl dX7_takeFrom_153) fun r19 M20 => ?_
    refine s_iinc (k := 0) (lv' := [(2, .int (v2 + 1)), (0, rf G 68), (1, rf G 0)]) dX7_takeFrom_156 rfl ci_1 rfl rfl ?_
    refine s_goto (tgt := 135) dX7_takeFrom_159 (by decide) ?_
    exact s_sub [0, 1, 2] rfl (hq135 (v2 + 1) M20)
theorem tX7_takeFrom_68_L135 (l : Launch) (G : Gx) : ∀ (n : Nat) (v2 : Int32) (M : Mm), Sim cQv l layC G 2 cX7_takeFrom RX7 3 none 135 [(2, .int v2), (0, rf G 68), (1, rf G 0)] [] M (fX7_takeFrom_68_L135 n v2 M)
  | 0, _, _ => s_none
  | n + 1, v2, M => tX7_takeFrom_68_L135b l G _ (tX7_takeFrom_68_L135 l G n) v2 M
def fX7_takeFrom_68_B133 (M : Mm) : Option (Unit × Mm) :=
  fX7_takeFrom_68_L135 FU (0 : Int32) M
theorem tX7_takeFrom_68_B133 (l : Launch) (G : Gx) (M : Mm) : Sim cQv l layC G 2 cX7_takeFrom RX7 3 none 133 [(0, rf G 68), (1, rf G 0)] [] M (fX7_takeFrom_68_B133 M) := by
  unfold fX7_takeFrom_68_B133
  refine s_iconst (v := 0) dX7_takeFrom_133 ci_0 ?_
  refine s_istore_n (lv' := [(2, .int (0 : Int32)), (0, rf G 68), (1, rf G 0)]) dX7_takeFrom_134 rfl rfl rfl ?_
  exact s_sub [0, 1, 2] rfl (tX7_takeFrom_68_L135 l G FU (0 : Int32) M)
def fX7_takeFrom_68_L107b (q107 : Int32 → Mm → Option (Unit × Mm)) (v2 : Int32) (M : Mm) : Option (Unit × Mm) :=
  if (4 : Int32) ≤ v2 then (fX7_takeFrom_68_B133 M)
  else gd (inb v2 4) <|
  gd (isC layC (97 + 2 * ix v2) 5) <|
  bd (fX5_takeFrom (97 + 2 * ix v2) (29 + 2 * ix v2) M) fun r23 M24 =>
  q107 (v2 + 1) M24
def fX7_takeFrom_68_L107  : Nat → Int32 → Mm → Option (Unit × Mm)
  | 0 => fun _ _ => none
  | n + 1 => fX7_takeFrom_68_L107b  (fX7_takeFrom_68_L107  n)
theorem tX7_takeFrom_68_L107b (l : Launch) (G : Gx) (q107 : Int32 → Mm → Option (Unit × Mm)) (hq107 : ∀ (v2 : Int32) (M : Mm), Sim cQv l layC G 2 cX7_takeFrom RX7 3 none 107 [(2, .int v2), (0, rf G 68), (1, rf G 0)] [] M (q107 v2 M)) (v2 : Int32) (M : Mm) : Sim cQv l layC G 2 cX7_takeFrom RX7 3 none 107 [(2, .int v2), (0, rf G 68), (1, rf G 0)] [] M (fX7_takeFrom_68_L107b q107 v2 M) := by
  unfold fX7_takeFrom_68_L107b
  refine s_iload_n 0 dX7_takeFrom_107 rfl rfl ?_
  refine s_iconst (v := 4) dX7_takeFrom_108 ci_4 ?_
  refine s_icmpge (tgt := 133) dX7_takeFrom_109 (by decide) ?_ ?_
  · exact s_sub [1, 2] rfl (tX7_takeFrom_68_B133 l G M)
  · refine s_aload_n 1 dX7_takeFrom_112 rfl rfl ?_
    refine g_X7_30 (q := 96) rfl rfl dX7_takeFrom_113 ?_
    refine s_iload_n 0 dX7_takeFrom_116 rfl rfl ?_
    refine s_gd fun h21 => ?_
    refine s_aald (t := 2) (bs := 97) (sd := 2) (n := 4) rfl rfl h21 dX7_takeFrom_117 ?_
    refine s_aload_n 2 dX7_takeFrom_118 rfl rfl ?_
    refine g_X7_30 (q := 28) rfl rfl dX7_takeFrom_119 ?_
    refine s_iload_n 0 dX7_takeFrom_122 rfl rfl ?_
    refine s_aald (t := 2) (bs := 29) (sd := 2) (n := 4) rfl rfl h21 dX7_takeFrom_123 ?_
    refine s_gd fun h22 => ?_
    refine s_call_v (s_runV (ci := 5) (rest := []) h22 rfl (mX5_takeFrom l G (97 + 2 * ix v2) (29 + 2 * ix v2) M) ok_X5_takeFrom k_X7_83 rfl rfl rfl rfl dX7_takeFrom_124) fun r23 M24 => ?_
    refine s_iinc (k := 0) (lv' := [(2, .int (v2 + 1)), (0, rf G 68), (1, rf G 0)]) dX7_takeFrom_127 rfl ci_1 rfl rfl ?_
    refine s_goto (tgt := 107) dX7_takeFrom_130 (by decide) ?_
    exact s_sub [0, 1, 2] rfl (hq107 (v2 + 1) M24)
theorem tX7_takeFrom_68_L107 (l : Launch) (G : Gx) : ∀ (n : Nat) (v2 : Int32) (M : Mm), Sim cQv l layC G 2 cX7_takeFrom RX7 3 none 107 [(2, .int v2), (0, rf G 68), (1, rf G 0)] [] M (fX7_takeFrom_68_L107 n v2 M)
  | 0, _, _ => s_none
  | n + 1, v2, M => tX7_takeFrom_68_L107b l G _ (tX7_takeFrom_68_L107 l G n) v2 M
def fX7_takeFrom_68_B105 (M : Mm) : Option (Unit × Mm) :=
  fX7_takeFrom_68_L107 FU (0 : Int32) M
theorem tX7_takeFrom_68_B105 (l : Launch) (G : Gx) (M : Mm) : Sim cQv l layC G 2 cX7_takeFrom RX7 3 none 105 [(0, rf G 68), (1, rf G 0)] [] M (fX7_takeFrom_68_B105 M) := by
  unfold fX7_takeFrom_68_B105
  refine s_iconst (v := 0) dX7_takeFrom_105 ci_0 ?_
  refine s_istore_n (lv' := [(2, .int (0 : Int32)), (0, rf G 68), (1, rf G 0)]) dX7_takeFrom_106 rfl rfl rfl ?_
  exact s_sub [0, 1, 2] rfl (tX7_takeFrom_68_L107 l G FU (0 : Int32) M)
def fX7_takeFrom_68_L78b (q78 : Int32 → Mm → Option (Unit × Mm)) (v2 : Int32) (M : Mm) : Option (Unit × Mm) :=
  if (24 : Int32) ≤ v2 then (fX7_takeFrom_68_B105 M)
  else gd (inb v2 24) <|
  gd (isC layC (72 + 1 * ix v2) 3) <|
  bd (fX3_takeFrom (72 + 1 * ix v2) (4 + 1 * ix v2) M) fun r27 M28 =>
  q78 (v2 + 1) M28
def fX7_takeFrom_68_L78  : Nat → Int32 → Mm → Option (Unit × Mm)
  | 0 => fun _ _ => none
  | n + 1 => fX7_takeFrom_68_L78b  (fX7_takeFrom_68_L78  n)
theorem tX7_takeFrom_68_L78b (l : Launch) (G : Gx) (q78 : Int32 → Mm → Option (Unit × Mm)) (hq78 : ∀ (v2 : Int32) (M : Mm), Sim cQv l layC G 2 cX7_takeFrom RX7 3 none 78 [(2, .int v2), (0, rf G 68), (1, rf G 0)] [] M (q78 v2 M)) (v2 : Int32) (M : Mm) : Sim cQv l layC G 2 cX7_takeFrom RX7 3 none 78 [(2, .int v2), (0, rf G 68), (1, rf G 0)] [] M (fX7_takeFrom_68_L78b q78 v2 M) := by
  unfold fX7_takeFrom_68_L78b
  refine s_iload_n 0 dX7_takeFrom_78 rfl rfl ?_
  refine s_bipush (v := 24) dX7_takeFrom_79 cb_24 ?_
  refine s_icmpge (tgt := 105) dX7_takeFrom_81 (by decide) ?_ ?_
  · exact s_sub [1, 2] rfl (tX7_takeFrom_68_B105 l G M)
  · refine s_aload_n 1 dX7_takeFrom_84 rfl rfl ?_
    refine g_X7_24 (q := 71) rfl rfl dX7_takeFrom_85 ?_
    refine s_iload_n 0 dX7_takeFrom_88 rfl rfl ?_
    refine s_gd fun h25 => ?_
    refine s_aald (t := 1) (bs := 72) (sd := 1) (n := 24) rfl rfl h25 dX7_takeFrom_89 ?_
    refine s_aload_n 2 dX7_takeFrom_90 rfl rfl ?_
    refine g_X7_24 (q := 3) rfl rfl dX7_takeFrom_91 ?_
    refine s_iload_n 0 dX7_takeFrom_94 rfl rfl ?_
    refine s_aald (t := 1) (bs := 4) (sd := 1) (n := 24) rfl rfl h25 dX7_takeFrom_95 ?_
    refine s_gd fun h26 => ?_
    refine s_call_v (s_runV (ci := 3) (rest := []) h26 rfl (mX3_takeFrom l G (72 + 1 * ix v2) (4 + 1 * ix v2) M) ok_X3_takeFrom k_X7_79 rfl rfl rfl rfl dX7_takeFrom_96) fun r27 M28 => ?_
    refine s_iinc (k := 0) (lv' := [(2, .int (v2 + 1)), (0, rf G 68), (1, rf G 0)]) dX7_takeFrom_99 rfl ci_1 rfl rfl ?_
    refine s_goto (tgt := 78) dX7_takeFrom_102 (by decide) ?_
    exact s_sub [0, 1, 2] rfl (hq78 (v2 + 1) M28)
theorem tX7_takeFrom_68_L78 (l : Launch) (G : Gx) : ∀ (n : Nat) (v2 : Int32) (M : Mm), Sim cQv l layC G 2 cX7_takeFrom RX7 3 none 78 [(2, .int v2), (0, rf G 68), (1, rf G 0)] [] M (fX7_takeFrom_68_L78 n v2 M)
  | 0, _, _ => s_none
  | n + 1, v2, M => tX7_takeFrom_68_L78b l G _ (tX7_takeFrom_68_L78 l G n) v2 M
def fX7_takeFrom_68  (M : Mm) : Option (Unit × Mm) :=
  lt (cpm M 1 (ix (0 : Int32)) 69 (ix (0 : Int32)) (ix (4 : Int32))) fun M1 =>
  lt (cpm M1 2 (ix (0 : Int32)) 70 (ix (0 : Int32)) (ix (4 : Int32))) fun M2 =>
  lt (wr M2 68 1 (M2 0 1)) fun M3 =>
  lt (wr M3 68 2 (M3 0 2)) fun M4 =>
  lt (wr M4 68 3 (M4 0 3)) fun M5 =>
  lt (wr M5 68 4 (M5 0 4)) fun M6 =>
  lt (wr M6 68 6 (M6 0 6)) fun M7 =>
  lt (wr M7 68 12 (M7 0 12)) fun M8 =>
  fX7_takeFrom_68_L78 FU (0 : Int32) M8
theorem mX7_takeFrom_68 (l : Launch) (G : Gx)  (M : Mm) : Mt cQv l layC G 2 yX7_takeFrom cX7_takeFrom 3 none [rf G 68, rf G 0] M (fX7_takeFrom_68 M) := by
  refine Mt.of2 (own := RX7) (lv := [(0, rf G 68), (1, rf G 0)]) rfl (by decide +kernel) rfl rfl ?_
  unfold fX7_takeFrom_68
  refine s_aload_n 1 dX7_takeFrom_0 rfl rfl ?_
  refine g_X7_9 (q := 1) rfl rfl dX7_takeFrom_1 ?_
  refine s_iconst (v := 0) dX7_takeFrom_4 ci_0 ?_
  refine s_aload_n 0 dX7_takeFrom_5 rfl rfl ?_
  refine g_X7_9 (q := 69) rfl rfl dX7_takeFrom_6 ?_
  refine s_iconst (v := 0) dX7_takeFrom_9 ci_0 ?_
  refine s_iconst (v := 4) dX7_takeFrom_10 ci_4 ?_
  refine s_copy (n0 := 4) (n1 := 4) rfl rfl (by decide) rfl rfl q_949 q_659 q_658 q_77 dX7_takeFrom_11 ?_
  refine s_letM fun M1 => ?_
  refine s_aload_n 1 dX7_takeFrom_14 rfl rfl ?_
  refine g_X7_34 (q := 2) rfl rfl dX7_takeFrom_15 ?_
  refine s_iconst (v := 0) dX7_takeFrom_18 ci_0 ?_
  refine s_aload_n 0 dX7_takeFrom_19 rfl rfl ?_
  refine g_X7_34 (q := 70) rfl rfl dX7_takeFrom_20 ?_
  refine s_iconst (v := 0) dX7_takeFrom_23 ci_0 ?_
  refine s_iconst (v := 4) dX7_takeFrom_24 ci_4 ?_
  refine s_copy (n0 := 4) (n1 := 4) rfl rfl (by decide) rfl rfl q_949 q_659 q_658 q_77 dX7_takeFrom_25 ?_
  refine s_letM fun M2 => ?_
  refine s_aload_n 0 dX7_takeFrom_28 rfl rfl ?_
  refine s_aload_n 1 dX7_takeFrom_29 rfl rfl ?_
  refine g_X7_15 rfl dX7_takeFrom_30 ?_
  refine p_X7_15 rfl dX7_takeFrom_33 ?_
  refine s_letM fun M3 => ?_
  refine s_aload_n 0 dX7_takeFrom_36 rfl rfl ?_
  refine s_aload_n 1 dX7_takeFrom_37 rfl rfl ?_
  refine g_X7_67 rfl dX7_takeFrom_38 ?_
  refine p_X7_67 rfl dX7_takeFrom_41 ?_
  refine s_letM fun M4 => ?_
  refine s_aload_n 0 dX7_takeFrom_44 rfl rfl ?_
  refine s_aload_n 1 dX7_takeFrom_45 rfl rfl ?_
  refine g_X7_70 rfl dX7_takeFrom_46 ?_
  refine p_X7_70 rfl dX7_takeFrom_49 ?_
  refine s_letM fun M5 => ?_
  refine s_aload_n 0 dX7_takeFrom_52 rfl rfl ?_
  refine s_aload_n 1 dX7_takeFrom_53 rfl rfl ?_
  refine g_X7_19 rfl dX7_takeFrom_54 ?_
  refine p_X7_19 rfl dX7_takeFrom_57 ?_
  refine s_letM fun M6 => ?_
  refine s_aload_n 0 dX7_takeFrom_60 rfl rfl ?_
  refine s_aload_n 1 dX7_takeFrom_61 rfl rfl ?_
  refine g_X7_73 rfl dX7_takeFrom_62 ?_
  refine p_X7_73 rfl dX7_takeFrom_65 ?_
  refine s_letM fun M7 => ?_
  refine s_aload_n 0 dX7_takeFrom_68 rfl rfl ?_
  refine s_aload_n 1 dX7_takeFrom_69 rfl rfl ?_
  refine g_X7_76 rfl dX7_takeFrom_70 ?_
  refine p_X7_76 rfl dX7_takeFrom_73 ?_
  refine s_letM fun M8 => ?_
  refine s_iconst (v := 0) dX7_takeFrom_76 ci_0 ?_
  refine s_istore_n (lv' := [(2, .int (0 : Int32)), (0, rf G 68), (1, rf G 0)]) dX7_takeFrom_77 rfl rfl rfl ?_
  exact s_sub [0, 1, 2] rfl (tX7_takeFrom_68_L78 l G FU (0 : Int32) M8)
theorem dX7_hasLetter_0 : decode cX7_hasLetter 0 = .ok (.iload_n 1, 1) := by decide +kernel
theorem dX7_hasLetter_1 : decode cX7_hasLetter 1 = .ok (.iconst 0, 1) := by decide +kernel
theorem dX7_hasLetter_2 : decode cX7_hasLetter 2 = .ok (.aload_n 0, 1) := by decide +kernel
theorem dX7_hasLetter_3 : decode cX7_hasLetter 3 = .ok (.getfield 73, 3) := by decide +kernel
theorem dX7_hasLetter_6 : decode cX7_hasLetter 6 = .ok (.iconst 1, 1) := by decide +kernel
theorem dX7_hasLetter_7 : decode cX7_hasLetter 7 = .ok (.isub, 1) := by decide +kernel
theorem dX7_hasLetter_8 : decode cX7_hasLetter 8 = .ok (.invokestatic 89, 3) := by decide +kernel
theorem dX7_hasLetter_11 : decode cX7_hasLetter 11 = .ok (.ireturn, 1) := by decide +kernel
def fX7_hasLetter (a1 : Int32) (M : Mm) : Option (Bool × Mm) :=
  bd (fX9_isWithin a1 (0 : Int32) ((M 0 6) - (1 : Int32)) M) fun r1 M2 =>
  some (r1, M2)
theorem mX7_hasLetter (l : Launch) (G : Gx) (a1 : Int32) (M : Mm) : Mt cQz l layC G 2 yX7_hasLetter cX7_hasLetter 2 (some .boolean) [rf G 0, .int a1] M (fX7_hasLetter a1 M) := by
  refine Mt.of2 (own := RX7) (lv := [(0, rf G 0), (1, .int a1)]) rfl (by decide +kernel) rfl rfl ?_
  unfold fX7_hasLetter
  refine s_iload_n 1 dX7_hasLetter_0 rfl rfl ?_
  refine s_iconst (v := 0) dX7_hasLetter_1 ci_0 ?_
  refine s_aload_n 0 dX7_hasLetter_2 rfl rfl ?_
  refine g_X7_73 rfl dX7_hasLetter_3 ?_
  refine s_iconst (v := 1) dX7_hasLetter_6 ci_1 ?_
  refine s_isub dX7_hasLetter_7 ?_
  refine s_call_z (s_runSN (rest := []) (mX9_isWithin l G a1 (0 : Int32) ((M 0 6) - (1 : Int32)) M) ok_X9_isWithin k_X7_89 rfl rfl rfl rfl dX7_hasLetter_8) fun r1 M2 => ?_
  exact s_zretB rfl dX7_hasLetter_11
theorem dX7_lawOf_0 : decode cX7_lawOf 0 = .ok (.iload_n 1, 1) := by decide +kernel
theorem dX7_lawOf_1 : decode cX7_lawOf 1 = .ok (.ifCond .ne 10, 3) := by decide +kernel
theorem dX7_lawOf_4 : decode cX7_lawOf 4 = .ok (.aload_n 0, 1) := by decide +kernel
theorem dX7_lawOf_5 : decode cX7_lawOf 5 = .ok (.getfield 40, 3) := by decide +kernel
theorem dX7_lawOf_8 : decode cX7_lawOf 8 = .ok (.goto 7, 3) := by decide +kernel
theorem dX7_lawOf_11 : decode cX7_lawOf 11 = .ok (.aload_n 0, 1) := by decide +kernel
theorem dX7_lawOf_12 : decode cX7_lawOf 12 = .ok (.getfield 44, 3) := by decide +kernel
theorem dX7_lawOf_15 : decode cX7_lawOf 15 = .ok (.areturn, 1) := by decide +kernel
def fX7_lawOf_B15 (w0 : Nat) (M : Mm) : Option (Nat × Mm) :=
  some (w0, M)
theorem tX7_lawOf_B15 (l : Launch) (G : Gx) (w0 : Nat) (M : Mm) : Sim cQr l layC G 1 cX7_lawOf RX7 2 (some (.object RX1)) 15 [] [rf G w0] M (fX7_lawOf_B15 w0 M) := by
  unfold fX7_lawOf_B15
  exact s_aret rfl dX7_lawOf_15
def fX7_lawOf (a1 : Int32) (M : Mm) : Option (Nat × Mm) :=
  if a1 = 0 then (fX7_lawOf_B15 37 M)
  else fX7_lawOf_B15 42 M
theorem mX7_lawOf (l : Launch) (G : Gx) (a1 : Int32) (M : Mm) : Mt cQr l layC G 1 yX7_lawOf cX7_lawOf 2 (some (.object RX1)) [rf G 0, .int a1] M (fX7_lawOf a1 M) := by
  refine Mt.of2 (own := RX7) (lv := [(0, rf G 0), (1, .int a1)]) rfl (by decide +kernel) rfl rfl ?_
  unfold fX7_lawOf
  refine s_iload_n 1 dX7_lawOf_0 rfl rfl ?_
  refine s_ifne (tgt := 11) dX7_lawOf_1 (by decide) ?_ ?_
  · refine s_aload_n 0 dX7_lawOf_11 rfl rfl ?_
    refine g_X7_44 (q := 42) rfl rfl dX7_lawOf_12 ?_
    exact s_sub [] rfl (tX7_lawOf_B15 l G 42 M)
  · refine s_aload_n 0 dX7_lawOf_4 rfl rfl ?_
    refine g_X7_40 (q := 37) rfl rfl dX7_lawOf_5 ?_
    refine s_goto (tgt := 15) dX7_lawOf_8 (by decide) ?_
    exact s_sub [] rfl (tX7_lawOf_B15 l G 37 M)
theorem dX7_castError_0 : decode cX7_castError 0 = .ok (.iload_n 1, 1) := by decide +kernel
theorem dX7_castError_1 : decode cX7_castError 1 = .ok (.iconst 0, 1) := by decide +kernel
theorem dX7_castError_2 : decode cX7_castError 2 = .ok (.bipush 69, 2) := by decide +kernel
theorem dX7_castError_4 : decode cX7_castError 4 = .ok (.invokestatic 89, 3) := by decide +kernel
theorem dX7_castError_7 : decode cX7_castError 7 = .ok (.ifCond .eq 24, 3) := by decide +kernel
theorem dX7_castError_10 : decode cX7_castError 10 = .ok (.iload_n 2, 1) := by decide +kernel
theorem dX7_castError_11 : decode cX7_castError 11 = .ok (.iconst 1, 1) := by decide +kernel
theorem dX7_castError_12 : decode cX7_castError 12 = .ok (.bipush 26, 2) := by decide +kernel
theorem dX7_castError_14 : decode cX7_castError 14 = .ok (.invokestatic 89, 3) := by decide +kernel
theorem dX7_castError_17 : decode cX7_castError 17 = .ok (.ifCond .eq 14, 3) := by decide +kernel
theorem dX7_castError_20 : decode cX7_castError 20 = .ok (.iload_n 3, 1) := by decide +kernel
theorem dX7_castError_21 : decode cX7_castError 21 = .ok (.iconst 0, 1) := by decide +kernel
theorem dX7_castError_22 : decode cX7_castError 22 = .ok (.sipush 999, 3) := by decide +kernel
theorem dX7_castError_25 : decode cX7_castError 25 = .ok (.invokestatic 89, 3) := by decide +kernel
theorem dX7_castError_28 : decode cX7_castError 28 = .ok (.ifCond .ne 6, 3) := by decide +kernel
theorem dX7_castError_31 : decode cX7_castError 31 = .ok (.ldc 93, 2) := by decide +kernel
theorem dX7_castError_33 : decode cX7_castError 33 = .ok (.ireturn, 1) := by decide +kernel
theorem dX7_castError_34 : decode cX7_castError 34 = .ok (.iload_n 3, 1) := by decide +kernel
theorem dX7_castError_35 : decode cX7_castError 35 = .ok (.aload_n 0, 1) := by decide +kernel
theorem dX7_castError_36 : decode cX7_castError 36 = .ok (.getfield 15, 3) := by decide +kernel
theorem dX7_castError_39 : decode cX7_castError 39 = .ok (.if_icmp .le 6, 3) := by decide +kernel
theorem dX7_castError_42 : decode cX7_castError 42 = .ok (.ldc 94, 2) := by decide +kernel
theorem dX7_castError_44 : decode cX7_castError 44 = .ok (.ireturn, 1) := by decide +kernel
theorem dX7_castError_45 : decode cX7_castError 45 = .ok (.aload_n 0, 1) := by decide +kernel
theorem dX7_castError_46 : decode cX7_castError 46 = .ok (.getfield 73, 3) := by decide +kernel
theorem dX7_castError_49 : decode cX7_castError 49 = .ok (.bipush 24, 2) := by decide +kernel
theorem dX7_castError_51 : decode cX7_castError 51 = .ok (.if_icmp .lt 8, 3) := by decide +kernel
theorem dX7_castError_54 : decode cX7_castError 54 = .ok (.ldc 95, 2) := by decide +kernel
theorem dX7_castError_56 : decode cX7_castError 56 = .ok (.goto 4, 3) := by decide +kernel
theorem dX7_castError_59 : decode cX7_castError 59 = .ok (.iconst 0, 1) := by decide +kernel
theorem dX7_castError_60 : decode cX7_castError 60 = .ok (.ireturn, 1) := by decide +kernel
def fX7_castError_B31 (M : Mm) : Option (Int32 × Mm) :=
  some ((-1000000001 : Int32), M)
theorem tX7_castError_B31 (l : Launch) (G : Gx) (M : Mm) : Sim cQi l layC G 2 cX7_castError RX7 4 (some .int) 31 [] [] M (fX7_castError_B31 M) := by
  unfold fX7_castError_B31
  refine s_ldc (v := -1000000001) dX7_castError_31 q_394 ?_
  exact s_iret rfl dX7_castError_33
def fX7_castError_B60 (w0 : Int32) (M : Mm) : Option (Int32 × Mm) :=
  some (w0, M)
theorem tX7_castError_B60 (l : Launch) (G : Gx) (w0 : Int32) (M : Mm) : Sim cQi l layC G 2 cX7_castError RX7 4 (some .int) 60 [] [.int w0] M (fX7_castError_B60 w0 M) := by
  unfold fX7_castError_B60
  exact s_iret rfl dX7_castError_60
def fX7_castError (a1 : Int32) (a2 : Int32) (a3 : Int32) (M : Mm) : Option (Int32 × Mm) :=
  bd (fX9_isWithin a1 (0 : Int32) (69 : Int32) M) fun r1 M2 =>
  if r1 = true then (bd (fX9_isWithin a2 (1 : Int32) (26 : Int32) M2) fun r3 M4 =>
  if r3 = true then (bd (fX9_isWithin a3 (0 : Int32) (999 : Int32) M4) fun r5 M6 =>
  if r5 = true then (if a3 ≤ (M6 0 1) then (if (M6 0 6) < (24 : Int32) then (fX7_castError_B60 (0 : Int32) M6)
  else fX7_castError_B60 (-1000000004 : Int32) M6)
  else some ((-1000000003 : Int32), M6))
  else fX7_castError_B31 M6)
  else fX7_castError_B31 M4)
  else fX7_castError_B31 M2
theorem mX7_castError (l : Launch) (G : Gx) (a1 : Int32) (a2 : Int32) (a3 : Int32) (M : Mm) : Mt cQi l layC G 2 yX7_castError cX7_castError 4 (some .int) [rf G 0, .int a1, .int a2, .int a3] M (fX7_castError a1 a2 a3 M) := by
  refine Mt.of2 (own := RX7) (lv := [(0, rf G 0), (1, .int a1), (2, .int a2), (3, .int a3)]) rfl (by decide +kernel) rfl rfl ?_
  unfold fX7_castError
  refine s_iload_n 1 dX7_castError_0 rfl rfl ?_
  refine s_iconst (v := 0) dX7_castError_1 ci_0 ?_
  refine s_bipush (v := 69) dX7_castError_2 cb_69 ?_
  refine s_call_z (s_runSN (rest := []) (mX9_isWithin l G a1 (0 : Int32) (69 : Int32) M) ok_X9_isWithin k_X7_89 rfl rfl rfl rfl dX7_castError_4) fun r1 M2 => ?_
  refine s_ifeqB (tgt := 31) dX7_castError_7 (by decide) ?_ ?_
  · exact s_sub [] rfl (tX7_castError_B31 l G M2)
  · refine s_iload_n 2 dX7_castError_10 rfl rfl ?_
    refine s_iconst (v := 1) dX7_castError_11 ci_1 ?_
    refine s_bipush (v := 26) dX7_castError_12 cb_26 ?_
    refine s_call_z (s_runSN (rest := []) (mX9_isWithin l G a2 (1 : Int32) (26 : Int32) M2) ok_X9_isWithin k_X7_89 rfl rfl rfl rfl dX7_castError_14) fun r3 M4 => ?_
    refine s_ifeqB (tgt := 31) dX7_castError_17 (by decide) ?_ ?_
    · exact s_sub [] rfl (tX7_castError_B31 l G M4)
    · refine s_iload_n 3 dX7_castError_20 rfl rfl ?_
      refine s_iconst (v := 0) dX7_castError_21 ci_0 ?_
      refine s_sipush (v := 999) dX7_castError_22 cs_999 ?_
      refine s_call_z (s_runSN (rest := []) (mX9_isWithin l G a3 (0 : Int32) (999 : Int32) M4) ok_X9_isWithin k_X7_89 rfl rfl rfl rfl dX7_castError_25) fun r5 M6 => ?_
      refine s_ifneB (tgt := 34) dX7_castError_28 (by decide) ?_ ?_
      · refine s_iload_n 3 dX7_castError_34 rfl rfl ?_
        refine s_aload_n 0 dX7_castError_35 rfl rfl ?_
        refine g_X7_15 rfl dX7_castError_36 ?_
        refine s_icmple (tgt := 45) dX7_castError_39 (by decide) ?_ ?_
        · refine s_aload_n 0 dX7_castError_45 rfl rfl ?_
          refine g_X7_73 rfl dX7_castError_46 ?_
          refine s_bipush (v := 24) dX7_castError_49 cb_24 ?_
          refine s_icmplt (tgt := 59) dX7_castError_51 (by decide) ?_ ?_
          · refine s_iconst (v := 0) dX7_castError_59 ci_0 ?_
            exact s_sub [] rfl (tX7_castError_B60 l G (0 : Int32) M6)
          · refine s_ldc (v := -1000000004) dX7_castError_54 q_396 ?_
            refine s_goto (tgt := 60) dX7_castError_56 (by decide) ?_
            exact s_sub [] rfl (tX7_castError_B60 l G (-1000000004 : Int32) M6)
        · refine s_ldc (v := -1000000003) dX7_castError_42 q_395 ?_
          exact s_iret rfl dX7_castError_44
      · exact s_sub [] rfl (tX7_castError_B31 l G M6)
theorem dX7_castLetter_0 : decode cX7_castLetter 0 = .ok (.aload_n 0, 1) := by decide +kernel
theorem dX7_castLetter_1 : decode cX7_castLetter 1 = .ok (.getfield 73, 3) := by decide +kernel
theorem dX7_castLetter_4 : decode cX7_castLetter 4 = .ok (.istore 4, 2) := by decide +kernel
theorem dX7_castLetter_6 : decode cX7_castLetter 6 = .ok (.iload 4, 2) := by decide +kernel
theorem dX7_castLetter_8 : decode cX7_castLetter 8 = .ok (.bipush 24, 2) := by decide +kernel
theorem dX7_castLetter_10 : decode cX7_castLetter 10 = .ok (.if_icmp .lt 6, 3) := by decide +kernel
theorem dX7_castLetter_13 : decode cX7_castLetter 13 = .ok (.iload 4, 2) := by decide +kernel
theorem dX7_castLetter_15 : decode cX7_castLetter 15 = .ok (.ireturn, 1) := by decide +kernel
theorem dX7_castLetter_16 : decode cX7_castLetter 16 = .ok (.iload_n 1, 1) := by decide +kernel
theorem dX7_castLetter_17 : decode cX7_castLetter 17 = .ok (.bipush 10, 2) := by decide +kernel
theorem dX7_castLetter_19 : decode cX7_castLetter 19 = .ok (.idiv, 1) := by decide +kernel
theorem dX7_castLetter_20 : decode cX7_castLetter 20 = .ok (.istore 5, 2) := by decide +kernel
theorem dX7_castLetter_22 : decode cX7_castLetter 22 = .ok (.aload_n 0, 1) := by decide +kernel
theorem dX7_castLetter_23 : decode cX7_castLetter 23 = .ok (.getfield 67, 3) := by decide +kernel
theorem dX7_castLetter_26 : decode cX7_castLetter 26 = .ok (.iload_n 3, 1) := by decide +kernel
theorem dX7_castLetter_27 : decode cX7_castLetter 27 = .ok (.imul, 1) := by decide +kernel
theorem dX7_castLetter_28 : decode cX7_castLetter 28 = .ok (.aload_n 0, 1) := by decide +kernel
theorem dX7_castLetter_29 : decode cX7_castLetter 29 = .ok (.getfield 15, 3) := by decide +kernel
theorem dX7_castLetter_32 : decode cX7_castLetter 32 = .ok (.invokestatic 96, 3) := by decide +kernel
theorem dX7_castLetter_35 : decode cX7_castLetter 35 = .ok (.istore 6, 2) := by decide +kernel
theorem dX7_castLetter_37 : decode cX7_castLetter 37 = .ok (.iload 5, 2) := by decide +kernel
theorem dX7_castLetter_39 : decode cX7_castLetter 39 = .ok (.iconst 1, 1) := by decide +kernel
theorem dX7_castLetter_40 : decode cX7_castLetter 40 = .ok (.if_icmp .ne 31, 3) := by decide +kernel
theorem dX7_castLetter_43 : decode cX7_castLetter 43 = .ok (.iload 6, 2) := by decide +kernel
theorem dX7_castLetter_45 : decode cX7_castLetter 45 = .ok (.ifCond .le 26, 3) := by decide +kernel
theorem dX7_castLetter_48 : decode cX7_castLetter 48 = .ok (.aload_n 0, 1) := by decide +kernel
theorem dX7_castLetter_49 : decode cX7_castLetter 49 = .ok (.getfield 24, 3) := by decide +kernel
theorem dX7_castLetter_52 : decode cX7_castLetter 52 = .ok (.iload 4, 2) := by decide +kernel
theorem dX7_castLetter_54 : decode cX7_castLetter 54 = .ok (.aaload, 1) := by decide +kernel
theorem dX7_castLetter_55 : decode cX7_castLetter 55 = .ok (.iconst 3, 1) := by decide +kernel
theorem dX7_castLetter_56 : decode cX7_castLetter 56 = .ok (.iload 6, 2) := by decide +kernel
theorem dX7_castLetter_58 : decode cX7_castLetter 58 = .ok (.bipush 9, 2) := by decide +kernel
theorem dX7_castLetter_60 : decode cX7_castLetter 60 = .ok (.invokestatic 100, 3) := by decide +kernel
theorem dX7_castLetter_63 : decode cX7_castLetter 63 = .ok (.iload_n 2, 1) := by decide +kernel
theorem dX7_castLetter_64 : decode cX7_castLetter 64 = .ok (.iload_n 3, 1) := by decide +kernel
theorem dX7_castLetter_65 : decode cX7_castLetter 65 = .ok (.invokevirtual 105, 3) := by decide +kernel
theorem dX7_castLetter_68 : decode cX7_castLetter 68 = .ok (.goto 21, 3) := by decide +kernel
theorem dX7_castLetter_71 : decode cX7_castLetter 71 = .ok (.aload_n 0, 1) := by decide +kernel
theorem dX7_castLetter_72 : decode cX7_castLetter 72 = .ok (.getfield 24, 3) := by decide +kernel
theorem dX7_castLetter_75 : decode cX7_castLetter 75 = .ok (.iload 4, 2) := by decide +kernel
theorem dX7_castLetter_77 : decode cX7_castLetter 77 = .ok (.aaload, 1) := by decide +kernel
theorem dX7_castLetter_78 : decode cX7_castLetter 78 = .ok (.iload 5, 2) := by decide +kernel
theorem dX7_castLetter_80 : decode cX7_castLetter 80 = .ok (.iload_n 1, 1) := by decide +kernel
theorem dX7_castLetter_81 : decode cX7_castLetter 81 = .ok (.bipush 10, 2) := by decide +kernel
theorem dX7_castLetter_83 : decode cX7_castLetter 83 = .ok (.irem, 1) := by decide +kernel
theorem dX7_castLetter_84 : decode cX7_castLetter 84 = .ok (.iload_n 2, 1) := by decide +kernel
theorem dX7_castLetter_85 : decode cX7_castLetter 85 = .ok (.iload_n 3, 1) := by decide +kernel
theorem dX7_castLetter_86 : decode cX7_castLetter 86 = .ok (.invokevirtual 105, 3) := by decide +kernel
theorem dX7_castLetter_89 : decode cX7_castLetter 89 = .ok (.aload_n 0, 1) := by decide +kernel
theorem dX7_castLetter_90 : decode cX7_castLetter 90 = .ok (.dup, 1) := by decide +kernel
theorem dX7_castLetter_91 : decode cX7_castLetter 91 = .ok (.getfield 15, 3) := by decide +kernel
theorem dX7_castLetter_94 : decode cX7_castLetter 94 = .ok (.iload_n 3, 1) := by decide +kernel
theorem dX7_castLetter_95 : decode cX7_castLetter 95 = .ok (.isub, 1) := by decide +kernel
theorem dX7_castLetter_96 : decode cX7_castLetter 96 = .ok (.putfield 15, 3) := by decide +kernel
theorem dX7_castLetter_99 : decode cX7_castLetter 99 = .ok (.aload_n 0, 1) := by decide +kernel
theorem dX7_castLetter_100 : decode cX7_castLetter 100 = .ok (.dup, 1) := by decide +kernel
theorem dX7_castLetter_101 : decode cX7_castLetter 101 = .ok (.getfield 67, 3) := by decide +kernel
theorem dX7_castLetter_104 : decode cX7_castLetter 104 = .ok (.iload 6, 2) := by decide +kernel
theorem dX7_castLetter_106 : decode cX7_castLetter 106 = .ok (.isub, 1) := by decide +kernel
theorem dX7_castLetter_107 : decode cX7_castLetter 107 = .ok (.putfield 67, 3) := by decide +kernel
theorem dX7_castLetter_110 : decode cX7_castLetter 110 = .ok (.aload_n 0, 1) := by decide +kernel
theorem dX7_castLetter_111 : decode cX7_castLetter 111 = .ok (.dup, 1) := by decide +kernel
theorem dX7_castLetter_112 : decode cX7_castLetter 112 = .ok (.getfield 73, 3) := by decide +kernel
theorem dX7_castLetter_115 : decode cX7_castLetter 115 = .ok (.iconst 1, 1) := by decide +kernel
theorem dX7_castLetter_116 : decode cX7_castLetter 116 = .ok (.iadd, 1) := by decide +kernel
theorem dX7_castLetter_117 : decode cX7_castLetter 117 = .ok (.putfield 73, 3) := by decide +kernel
theorem dX7_castLetter_120 : decode cX7_castLetter 120 = .ok (.iload 4, 2) := by decide +kernel
theorem dX7_castLetter_122 : decode cX7_castLetter 122 = .ok (.ireturn, 1) := by decide +kernel
def fX7_castLetter_B89 (v6 : Int32) (v4 : Int32) (v3 : Int32) (M : Mm) : Option (Int32 × Mm) :=
  lt (wr M 0 1 ((M 0 1) - v3)) fun M9 =>
  lt (wr M9 0 2 ((M9 0 2) - v6)) fun M10 =>
  lt (wr M10 0 6 ((M10 0 6) + (1 : Int32))) fun M11 =>
  some (v4, M11)
theorem tX7_castLetter_B89 (l : Launch) (G : Gx) (v6 : Int32) (v4 : Int32) (v3 : Int32) (M : Mm) : Sim cQi l layC G 2 cX7_castLetter RX7 7 (some .int) 89 [(6, .int v6), (4, .int v4), (0, rf G 0), (3, .int v3)] [] M (fX7_castLetter_B89 v6 v4 v3 M) := by
  unfold fX7_castLetter_B89
  refine s_aload_n 2 dX7_castLetter_89 rfl rfl ?_
  refine s_dup dX7_castLetter_90 rfl ?_
  refine g_X7_15 rfl dX7_castLetter_91 ?_
  refine s_iload_n 3 dX7_castLetter_94 rfl rfl ?_
  refine s_isub dX7_castLetter_95 ?_
  refine p_X7_15 rfl dX7_castLetter_96 ?_
  refine s_letM fun M9 => ?_
  refine s_aload_n 2 dX7_castLetter_99 rfl rfl ?_
  refine s_dup dX7_castLetter_100 rfl ?_
  refine g_X7_67 rfl dX7_castLetter_101 ?_
  refine s_iload 0 dX7_castLetter_104 rfl ?_
  refine s_isub dX7_castLetter_106 ?_
  refine p_X7_67 rfl dX7_castLetter_107 ?_
  refine s_letM fun M10 => ?_
  refine s_aload_n 2 dX7_castLetter_110 rfl rfl ?_
  refine s_dup dX7_castLetter_111 rfl ?_
  refine g_X7_73 rfl dX7_castLetter_112 ?_
  refine s_iconst (v := 1) dX7_castLetter_115 ci_1 ?_
  refine s_iadd dX7_castLetter_116 ?_
  refine p_X7_73 rfl dX7_castLetter_117 ?_
  refine s_letM fun M11 => ?_
  refine s_iload 1 dX7_castLetter_120 rfl ?_
  exact s_iret rfl dX7_castLetter_122
def fX7_castLetter_B71 (v6 : Int32) (v5 : Int32) (v4 : Int32) (v1 : Int32) (v2 : Int32) (v3 : Int32) (M : Mm) : Option (Int32 × Mm) :=
  gd (inb v4 24) <|
  gd (isC layC (4 + 1 * ix v4) 3) <|
  bd (fX3_begin (4 + 1 * ix v4) v5 (v1 - v1 / (10 : Int32) * (10 : Int32)) v2 v3 M) fun r7 M8 =>
  fX7_castLetter_B89 v6 v4 v3 M8
theorem tX7_castLetter_B71 (l : Launch) (G : Gx) (v6 : Int32) (v5 : Int32) (v4 : Int32) (v1 : Int32) (v2 : Int32) (v3 : Int32) (M : Mm) : Sim cQi l layC G 2 cX7_castLetter RX7 7 (some .int) 71 [(6, .int v6), (5, .int v5), (4, .int v4), (0, rf G 0), (1, .int v1), (2, .int v2), (3, .int v3)] [] M (fX7_castLetter_B71 v6 v5 v4 v1 v2 v3 M) := by
  unfold fX7_castLetter_B71
  refine s_aload_n 3 dX7_castLetter_71 rfl rfl ?_
  refine g_X7_24 (q := 3) rfl rfl dX7_castLetter_72 ?_
  refine s_iload 2 dX7_castLetter_75 rfl ?_
  refine s_gd fun h5 => ?_
  refine s_aald (t := 1) (bs := 4) (sd := 1) (n := 24) rfl rfl h5 dX7_castLetter_77 ?_
  refine s_iload 1 dX7_castLetter_78 rfl ?_
  refine s_iload_n 4 dX7_castLetter_80 rfl rfl ?_
  refine s_bipush (v := 10) dX7_castLetter_81 cb_10 ?_
  refine s_irem dX7_castLetter_83 (by decide) ?_
  refine s_iload_n 5 dX7_castLetter_84 rfl rfl ?_
  refine s_iload_n 6 dX7_castLetter_85 rfl rfl ?_
  refine s_gd fun h6 => ?_
  refine s_call_v (s_runV (ci := 3) (rest := []) h6 rfl (mX3_begin l G (4 + 1 * ix v4) v5 (v1 - v1 / (10 : Int32) * (10 : Int32)) v2 v3 M) ok_X3_begin k_X7_105 rfl rfl rfl rfl dX7_castLetter_86) fun r7 M8 => ?_
  exact s_sub [0, 2, 3, 6] rfl (tX7_castLetter_B89 l G v6 v4 v3 M8)
def fX7_castLetter (a1 : Int32) (a2 : Int32) (a3 : Int32) (M : Mm) : Option (Int32 × Mm) :=
  lt (M 0 6) fun x1 =>
  if x1 < (24 : Int32) then (lt (a1 / (10 : Int32)) fun x2 =>
  bd (fX9_quotient ((M 0 2) * a3) (M 0 1) M) fun r3 M4 =>
  if x2 = (1 : Int32) then (if r3 ≤ 0 then (fX7_castLetter_B71 r3 x2 x1 a1 a2 a3 M4)
  else gd (inb x1 24) <|
  gd (isC layC (4 + 1 * ix x1) 3) <|
  bd (fX3_begin (4 + 1 * ix x1) (3 : Int32) (if (9 : Int32) < r3 then (9 : Int32) else r3) a2 a3 M4) fun r14 M15 =>
  fX7_castLetter_B89 r3 x1 a3 M15)
  else fX7_castLetter_B71 r3 x2 x1 a1 a2 a3 M4)
  else some (x1, M)
theorem mX7_castLetter (l : Launch) (G : Gx) (a1 : Int32) (a2 : Int32) (a3 : Int32) (M : Mm) : Mt cQi l layC G 2 yX7_castLetter cX7_castLetter 7 (some .int) [rf G 0, .int a1, .int a2, .int a3] M (fX7_castLetter a1 a2 a3 M) := by
  refine Mt.of2 (own := RX7) (lv := [(0, rf G 0), (1, .int a1), (2, .int a2), (3, .int a3)]) rfl (by decide +kernel) rfl rfl ?_
  unfold fX7_castLetter
  refine s_aload_n 0 dX7_castLetter_0 rfl rfl ?_
  refine g_X7_73 rfl dX7_castLetter_1 ?_
  refine s_leti fun x1 => ?_
  refine s_istore (lv' := [(4, .int x1), (0, rf G 0), (1, .int a1), (2, .int a2), (3, .int a3)]) dX7_castLetter_4 rfl rfl ?_
  refine s_iload 0 dX7_castLetter_6 rfl ?_
  refine s_bipush (v := 24) dX7_castLetter_8 cb_24 ?_
  refine s_icmplt (tgt := 16) dX7_castLetter_10 (by decide) ?_ ?_
  · refine s_iload_n 2 dX7_castLetter_16 rfl rfl ?_
    refine s_bipush (v := 10) dX7_castLetter_17 cb_10 ?_
    refine s_idiv dX7_castLetter_19 (by decide) ?_
    refine s_leti fun x2 => ?_
    refine s_istore (lv' := [(5, .int x2), (4, .int x1), (0, rf G 0), (1, .int a1), (2, .int a2), (3, .int a3)]) dX7_castLetter_20 rfl rfl ?_
    refine s_aload_n 2 dX7_castLetter_22 rfl rfl ?_
    refine g_X7_67 rfl dX7_castLetter_23 ?_
    refine s_iload_n 5 dX7_castLetter_26 rfl rfl ?_
    refine s_imul dX7_castLetter_27 ?_
    refine s_aload_n 2 dX7_castLetter_28 rfl rfl ?_
    refine g_X7_15 rfl dX7_castLetter_29 ?_
    refine s_call_i (s_runSN (rest := []) (mX9_quotient l G ((M 0 2) * a3) (M 0 1) M) ok_X9_quotient k_X7_96 rfl rfl rfl rfl dX7_castLetter_32) fun r3 M4 => ?_
    refine s_istore (lv' := [(6, .int r3), (5, .int x2), (4, .int x1), (0, rf G 0), (1, .int a1), (2, .int a2), (3, .int a3)]) dX7_castLetter_35 rfl rfl ?_
    refine s_iload 1 dX7_castLetter_37 rfl ?_
    refine s_iconst (v := 1) dX7_castLetter_39 ci_1 ?_
    refine s_icmpne (tgt := 71) dX7_castLetter_40 (by decide) ?_ ?_
    · exact s_sub [0, 1, 2, 3, 4, 5, 6] rfl (tX7_castLetter_B71 l G r3 x2 x1 a1 a2 a3 M4)
    · refine s_iload 0 dX7_castLetter_43 rfl ?_
      refine s_ifle (tgt := 71) dX7_castLetter_45 (by decide) ?_ ?_
      · exact s_sub [0, 1, 2, 3, 4, 5, 6] rfl (tX7_castLetter_B71 l G r3 x2 x1 a1 a2 a3 M4)
      · refine s_aload_n 3 dX7_castLetter_48 rfl rfl ?_
        refine g_X7_24 (q := 3) rfl rfl dX7_castLetter_49 ?_
        refine s_iload 2 dX7_castLetter_52 rfl ?_
        refine s_gd fun h12 => ?_
        refine s_aald (t := 1) (bs := 4) (sd := 1) (n := 24) rfl rfl h12 dX7_castLetter_54 ?_
        refine s_iconst (v := 3) dX7_castLetter_55 ci_3 ?_
        refine s_iload 0 dX7_castLetter_56 rfl ?_
        refine s_bipush (v := 9) dX7_castLetter_58 cb_9 ?_
        refine s_min rfl rfl q_410 q_411 q_64 q_412 dX7_castLetter_60 ?_
        refine s_iload_n 5 dX7_castLetter_63 rfl rfl ?_
        refine s_iload_n 6 dX7_castLetter_64 rfl rfl ?_
        refine s_gd fun h13 => ?_
        refine s_call_v (s_runV (ci := 3) (rest := []) h13 rfl (mX3_begin l G (4 + 1 * ix x1) (3 : Int32) (if (9 : Int32) < r3 then (9 : Int32) else r3) a2 a3 M4) ok_X3_begin k_X7_105 rfl rfl rfl rfl dX7_castLetter_65) fun r14 M15 => ?_
        refine s_goto (tgt := 89) dX7_castLetter_68 (by decide) ?_
        exact s_sub [0, 2, 3, 6] rfl (tX7_castLetter_B89 l G r3 x1 a3 M15)
  · refine s_iload 0 dX7_castLetter_13 rfl ?_
    exact s_iret rfl dX7_castLetter_15
theorem dX7_factOf_0 : decode cX7_factOf 0 = .ok (.iload_n 3, 1) := by decide +kernel
theorem dX7_factOf_1 : decode cX7_factOf 1 = .ok (.tableswitch 97 0 8 #[51, 56, 61, 66, 71, 76, 81, 86, 92], 51) := by decide +kernel
theorem dX7_factOf_52 : decode cX7_factOf 52 = .ok (.aload_n 1, 1) := by decide +kernel
theorem dX7_factOf_53 : decode cX7_factOf 53 = .ok (.getfield 109, 3) := by decide +kernel
theorem dX7_factOf_56 : decode cX7_factOf 56 = .ok (.ireturn, 1) := by decide +kernel
theorem dX7_factOf_57 : decode cX7_factOf 57 = .ok (.aload_n 1, 1) := by decide +kernel
theorem dX7_factOf_58 : decode cX7_factOf 58 = .ok (.getfield 112, 3) := by decide +kernel
theorem dX7_factOf_61 : decode cX7_factOf 61 = .ok (.ireturn, 1) := by decide +kernel
theorem dX7_factOf_62 : decode cX7_factOf 62 = .ok (.aload_n 1, 1) := by decide +kernel
theorem dX7_factOf_63 : decode cX7_factOf 63 = .ok (.getfield 115, 3) := by decide +kernel
theorem dX7_factOf_66 : decode cX7_factOf 66 = .ok (.ireturn, 1) := by decide +kernel
theorem dX7_factOf_67 : decode cX7_factOf 67 = .ok (.aload_n 1, 1) := by decide +kernel
theorem dX7_factOf_68 : decode cX7_factOf 68 = .ok (.getfield 118, 3) := by decide +kernel
theorem dX7_factOf_71 : decode cX7_factOf 71 = .ok (.ireturn, 1) := by decide +kernel
theorem dX7_factOf_72 : decode cX7_factOf 72 = .ok (.aload_n 1, 1) := by decide +kernel
theorem dX7_factOf_73 : decode cX7_factOf 73 = .ok (.getfield 121, 3) := by decide +kernel
theorem dX7_factOf_76 : decode cX7_factOf 76 = .ok (.ireturn, 1) := by decide +kernel
theorem dX7_factOf_77 : decode cX7_factOf 77 = .ok (.aload_n 1, 1) := by decide +kernel
theorem dX7_factOf_78 : decode cX7_factOf 78 = .ok (.getfield 124, 3) := by decide +kernel
theorem dX7_factOf_81 : decode cX7_factOf 81 = .ok (.ireturn, 1) := by decide +kernel
theorem dX7_factOf_82 : decode cX7_factOf 82 = .ok (.aload_n 1, 1) := by decide +kernel
theorem dX7_factOf_83 : decode cX7_factOf 83 = .ok (.getfield 127, 3) := by decide +kernel
theorem dX7_factOf_86 : decode cX7_factOf 86 = .ok (.ireturn, 1) := by decide +kernel
theorem dX7_factOf_87 : decode cX7_factOf 87 = .ok (.aload_n 0, 1) := by decide +kernel
theorem dX7_factOf_88 : decode cX7_factOf 88 = .ok (.aload_n 1, 1) := by decide +kernel
theorem dX7_factOf_89 : decode cX7_factOf 89 = .ok (.invokevirtual 130, 3) := by decide +kernel
theorem dX7_factOf_92 : decode cX7_factOf 92 = .ok (.ireturn, 1) := by decide +kernel
theorem dX7_factOf_93 : decode cX7_factOf 93 = .ok (.aload_n 1, 1) := by decide +kernel
theorem dX7_factOf_94 : decode cX7_factOf 94 = .ok (.invokevirtual 134, 3) := by decide +kernel
theorem dX7_factOf_97 : decode cX7_factOf 97 = .ok (.ireturn, 1) := by decide +kernel
theorem dX7_factOf_98 : decode cX7_factOf 98 = .ok (.aload_n 0, 1) := by decide +kernel
theorem dX7_factOf_99 : decode cX7_factOf 99 = .ok (.aload_n 1, 1) := by decide +kernel
theorem dX7_factOf_100 : decode cX7_factOf 100 = .ok (.iload_n 2, 1) := by decide +kernel
theorem dX7_factOf_101 : decode cX7_factOf 101 = .ok (.invokevirtual 138, 3) := by decide +kernel
theorem dX7_factOf_104 : decode cX7_factOf 104 = .ok (.ireturn, 1) := by decide +kernel
def fX7_factOf (a1 : Nat) (a2 : Int32) (a3 : Int32) (M : Mm) : Option (Int32 × Mm) :=
  if a3 = 0 then (gd (isC layC a1 3) <|
  some (M a1 0, M))
  else if a3 = 1 then (gd (isC layC a1 3) <|
  some (M a1 1, M))
  else if a3 = 2 then (gd (isC layC a1 3) <|
  some (M a1 2, M))
  else if a3 = 3 then (gd (isC layC a1 3) <|
  some (M a1 3, M))
  else if a3 = 4 then (gd (isC layC a1 3) <|
  some (M a1 4, M))
  else if a3 = 5 then (gd (isC layC a1 3) <|
  some (M a1 5, M))
  else if a3 = 6 then (gd (isC layC a1 3) <|
  some (M a1 6, M))
  else if a3 = 7 then (bd (fX7_meltsOf a1 M) fun r8 M9 =>
  some (r8, M9))
  else if a3 = 8 then (gd (isC layC a1 3) <|
  bd (fX3_reads a1 M) fun r11 M12 =>
  some (r11, M12))
  else bd (fX7_seesOf a1 a2 M) fun r13 M14 =>
  some (r13, M14)
theorem mX7_factOf (l : Launch) (G : Gx) (a1 : Nat) (a2 : Int32) (a3 : Int32) (M : Mm) : Mt cQi l layC G 4 yX7_factOf cX7_factOf 4 (some .int) [rf G 0, rf G a1, .int a2, .int a3] M (fX7_factOf a1 a2 a3 M) := by
  refine Mt.of2 (own := RX7) (lv := [(0, rf G 0), (1, rf G a1), (2, .int a2), (3, .int a3)]) rfl (by decide +kernel) rfl rfl ?_
  unfold fX7_factOf
  refine s_iload_n 3 dX7_factOf_0 rfl rfl ?_
  refine s_table (tgt := 98) dX7_factOf_1 (by decide) (by decide) (by decide) ?_
  refine lk_cons (k := 0) (tgt := 52) (by decide) (by decide) ?_ ?_
  · refine s_aload_n 1 dX7_factOf_52 rfl rfl ?_
    refine s_gd fun h1 => ?_
    refine g_X7_109 h1 dX7_factOf_53 ?_
    exact s_iret rfl dX7_factOf_56
  refine lk_cons (k := 1) (tgt := 57) (by decide) (by decide) ?_ ?_
  · refine s_aload_n 1 dX7_factOf_57 rfl rfl ?_
    refine s_gd fun h2 => ?_
    refine g_X7_112 h2 dX7_factOf_58 ?_
    exact s_iret rfl dX7_factOf_61
  refine lk_cons (k := 2) (tgt := 62) (by decide) (by decide) ?_ ?_
  · refine s_aload_n 1 dX7_factOf_62 rfl rfl ?_
    refine s_gd fun h3 => ?_
    refine g_X7_115 h3 dX7_factOf_63 ?_
    exact s_iret rfl dX7_factOf_66
  refine lk_cons (k := 3) (tgt := 67) (by decide) (by decide) ?_ ?_
  · refine s_aload_n 1 dX7_factOf_67 rfl rfl ?_
    refine s_gd fun h4 => ?_
    refine g_X7_118 h4 dX7_factOf_68 ?_
    exact s_iret rfl dX7_factOf_71
  refine lk_cons (k := 4) (tgt := 72) (by decide) (by decide) ?_ ?_
  · refine s_aload_n 1 dX7_factOf_72 rfl rfl ?_
    refine s_gd fun h5 => ?_
    refine g_X7_121 h5 dX7_factOf_73 ?_
    exact s_iret rfl dX7_factOf_76
  refine lk_cons (k := 5) (tgt := 77) (by decide) (by decide) ?_ ?_
  · refine s_aload_n 1 dX7_factOf_77 rfl rfl ?_
    refine s_gd fun h6 => ?_
    refine g_X7_124 h6 dX7_factOf_78 ?_
    exact s_iret rfl dX7_factOf_81
  refine lk_cons (k := 6) (tgt := 82) (by decide) (by decide) ?_ ?_
  · refine s_aload_n 1 dX7_factOf_82 rfl rfl ?_
    refine s_gd fun h7 => ?_
    refine g_X7_127 h7 dX7_factOf_83 ?_
    exact s_iret rfl dX7_factOf_86
  refine lk_cons (k := 7) (tgt := 87) (by decide) (by decide) ?_ ?_
  · refine s_aload_n 0 dX7_factOf_87 rfl rfl ?_
    refine s_aload_n 1 dX7_factOf_88 rfl rfl ?_
    refine s_call_i (s_runV (ci := 7) (rest := []) rfl rfl (mX7_meltsOf l G a1 M) ok_X7_meltsOf k_X7_130 rfl rfl rfl rfl dX7_factOf_89) fun r8 M9 => ?_
    exact s_iret rfl dX7_factOf_92
  refine lk_cons (k := 8) (tgt := 93) (by decide) (by decide) ?_ ?_
  · refine s_aload_n 1 dX7_factOf_93 rfl rfl ?_
    refine s_gd fun h10 => ?_
    refine s_call_i (s_runV (ci := 3) (rest := []) h10 rfl (mX3_reads l G a1 M) ok_X3_reads k_X7_134 rfl rfl rfl rfl dX7_factOf_94) fun r11 M12 => ?_
    exact s_iret rfl dX7_factOf_97
  refine lk_nil (tgt := 98) (by decide) ?_
  refine s_aload_n 0 dX7_factOf_98 rfl rfl ?_
  refine s_aload_n 1 dX7_factOf_99 rfl rfl ?_
  refine s_iload_n 2 dX7_factOf_100 rfl rfl ?_
  refine s_call_i (s_runV (ci := 7) (rest := []) rfl rfl (mX7_seesOf l G a1 a2 M) ok_X7_seesOf k_X7_138 rfl rfl rfl rfl dX7_factOf_101) fun r13 M14 => ?_
  exact s_iret rfl dX7_factOf_104
theorem dX7_dripInto_0 : decode cX7_dripInto 0 = .ok (.iload_n 1, 1) := by decide +kernel
theorem dX7_dripInto_1 : decode cX7_dripInto 1 = .ok (.ldc 161, 2) := by decide +kernel
theorem dX7_dripInto_3 : decode cX7_dripInto 3 = .ok (.aload_n 0, 1) := by decide +kernel
theorem dX7_dripInto_4 : decode cX7_dripInto 4 = .ok (.getfield 15, 3) := by decide +kernel
theorem dX7_dripInto_7 : decode cX7_dripInto 7 = .ok (.isub, 1) := by decide +kernel
theorem dX7_dripInto_8 : decode cX7_dripInto 8 = .ok (.invokestatic 100, 3) := by decide +kernel
theorem dX7_dripInto_11 : decode cX7_dripInto 11 = .ok (.istore_n 2, 1) := by decide +kernel
theorem dX7_dripInto_12 : decode cX7_dripInto 12 = .ok (.aload_n 0, 1) := by decide +kernel
theorem dX7_dripInto_13 : decode cX7_dripInto 13 = .ok (.dup, 1) := by decide +kernel
theorem dX7_dripInto_14 : decode cX7_dripInto 14 = .ok (.getfield 15, 3) := by decide +kernel
theorem dX7_dripInto_17 : decode cX7_dripInto 17 = .ok (.iload_n 2, 1) := by decide +kernel
theorem dX7_dripInto_18 : decode cX7_dripInto 18 = .ok (.iadd, 1) := by decide +kernel
theorem dX7_dripInto_19 : decode cX7_dripInto 19 = .ok (.putfield 15, 3) := by decide +kernel
theorem dX7_dripInto_22 : decode cX7_dripInto 22 = .ok (.aload_n 0, 1) := by decide +kernel
theorem dX7_dripInto_23 : decode cX7_dripInto 23 = .ok (.dup, 1) := by decide +kernel
theorem dX7_dripInto_24 : decode cX7_dripInto 24 = .ok (.getfield 70, 3) := by decide +kernel
theorem dX7_dripInto_27 : decode cX7_dripInto 27 = .ok (.iload_n 1, 1) := by decide +kernel
theorem dX7_dripInto_28 : decode cX7_dripInto 28 = .ok (.iload_n 2, 1) := by decide +kernel
theorem dX7_dripInto_29 : decode cX7_dripInto 29 = .ok (.isub, 1) := by decide +kernel
theorem dX7_dripInto_30 : decode cX7_dripInto 30 = .ok (.iadd, 1) := by decide +kernel
theorem dX7_dripInto_31 : decode cX7_dripInto 31 = .ok (.putfield 70, 3) := by decide +kernel
theorem dX7_dripInto_34 : decode cX7_dripInto 34 = .ok (.return_, 1) := by decide +kernel
def fX7_dripInto (a1 : Int32) (M : Mm) : Option (Unit × Mm) :=
  lt ((if ((99999 : Int32) - (M 0 1)) < a1 then ((99999 : Int32) - (M 0 1)) else a1)) fun x1 =>
  lt (wr M 0 1 ((M 0 1) + x1)) fun M2 =>
  lt (wr M2 0 3 ((M2 0 3) + (a1 - x1))) fun M3 =>
  some ((), M3)
theorem mX7_dripInto (l : Launch) (G : Gx) (a1 : Int32) (M : Mm) : Mt cQv l layC G 1 yX7_dripInto cX7_dripInto 3 none [rf G 0, .int a1] M (fX7_dripInto a1 M) := by
  refine Mt.of2 (own := RX7) (lv := [(0, rf G 0), (1, .int a1)]) rfl (by decide +kernel) rfl rfl ?_
  unfold fX7_dripInto
  refine s_iload_n 1 dX7_dripInto_0 rfl rfl ?_
  refine s_ldc (v := 99999) dX7_dripInto_1 q_502 ?_
  refine s_aload_n 0 dX7_dripInto_3 rfl rfl ?_
  refine g_X7_15 rfl dX7_dripInto_4 ?_
  refine s_isub dX7_dripInto_7 ?_
  refine s_min rfl rfl q_410 q_411 q_64 q_412 dX7_dripInto_8 ?_
  refine s_leti fun x1 => ?_
  refine s_istore_n (lv' := [(2, .int x1), (0, rf G 0), (1, .int a1)]) dX7_dripInto_11 rfl rfl rfl ?_
  refine s_aload_n 1 dX7_dripInto_12 rfl rfl ?_
  refine s_dup dX7_dripInto_13 rfl ?_
  refine g_X7_15 rfl dX7_dripInto_14 ?_
  refine s_iload_n 0 dX7_dripInto_17 rfl rfl ?_
  refine s_iadd dX7_dripInto_18 ?_
  refine p_X7_15 rfl dX7_dripInto_19 ?_
  refine s_letM fun M2 => ?_
  refine s_aload_n 1 dX7_dripInto_22 rfl rfl ?_
  refine s_dup dX7_dripInto_23 rfl ?_
  refine g_X7_70 rfl dX7_dripInto_24 ?_
  refine s_iload_n 2 dX7_dripInto_27 rfl rfl ?_
  refine s_iload_n 0 dX7_dripInto_28 rfl rfl ?_
  refine s_isub dX7_dripInto_29 ?_
  refine s_iadd dX7_dripInto_30 ?_
  refine p_X7_70 rfl dX7_dripInto_31 ?_
  refine s_letM fun M3 => ?_
  exact s_vret rfl dX7_dripInto_34
theorem dX7_iceOfAll_0 : decode cX7_iceOfAll 0 = .ok (.iconst 0, 1) := by decide +kernel
theorem dX7_iceOfAll_1 : decode cX7_iceOfAll 1 = .ok (.istore_n 1, 1) := by decide +kernel
theorem dX7_iceOfAll_2 : decode cX7_iceOfAll 2 = .ok (.iconst 0, 1) := by decide +kernel
theorem dX7_iceOfAll_3 : decode cX7_iceOfAll 3 = .ok (.istore_n 2, 1) := by decide +kernel
theorem dX7_iceOfAll_4 : decode cX7_iceOfAll 4 = .ok (.iload_n 2, 1) := by decide +kernel
theorem dX7_iceOfAll_5 : decode cX7_iceOfAll 5 = .ok (.aload_n 0, 1) := by decide +kernel
theorem dX7_iceOfAll_6 : decode cX7_iceOfAll 6 = .ok (.getfield 73, 3) := by decide +kernel
theorem dX7_iceOfAll_9 : decode cX7_iceOfAll 9 = .ok (.if_icmp .ge 21, 3) := by decide +kernel
theorem dX7_iceOfAll_12 : decode cX7_iceOfAll 12 = .ok (.iload_n 1, 1) := by decide +kernel
theorem dX7_iceOfAll_13 : decode cX7_iceOfAll 13 = .ok (.aload_n 0, 1) := by decide +kernel
theorem dX7_iceOfAll_14 : decode cX7_iceOfAll 14 = .ok (.getfield 24, 3) := by decide +kernel
theorem dX7_iceOfAll_17 : decode cX7_iceOfAll 17 = .ok (.iload_n 2, 1) := by decide +kernel
theorem dX7_iceOfAll_18 : decode cX7_iceOfAll 18 = .ok (.aaload, 1) := by decide +kernel
theorem dX7_iceOfAll_19 : decode cX7_iceOfAll 19 = .ok (.getfield 118, 3) := by decide +kernel
theorem dX7_iceOfAll_22 : decode cX7_iceOfAll 22 = .ok (.iadd, 1) := by decide +kernel
theorem dX7_iceOfAll_23 : decode cX7_iceOfAll 23 = .ok (.istore_n 1, 1) := by decide +kernel
theorem dX7_iceOfAll_24 : decode cX7_iceOfAll 24 = .ok (.iinc 2 1, 3) := by decide +kernel
theorem dX7_iceOfAll_27 : decode cX7_iceOfAll 27 = .ok (.goto (-23), 3) := by decide +kernel
theorem dX7_iceOfAll_30 : decode cX7_iceOfAll 30 = .ok (.iload_n 1, 1) := by decide +kernel
theorem dX7_iceOfAll_31 : decode cX7_iceOfAll 31 = .ok (.ireturn, 1) := by decide +kernel
def fX7_iceOfAll_B30 (v1 : Int32) (M : Mm) : Option (Int32 × Mm) :=
  some (v1, M)
theorem tX7_iceOfAll_B30 (l : Launch) (G : Gx) (v1 : Int32) (M : Mm) : Sim cQi l layC G 1 cX7_iceOfAll RX7 3 (some .int) 30 [(1, .int v1)] [] M (fX7_iceOfAll_B30 v1 M) := by
  unfold fX7_iceOfAll_B30
  refine s_iload_n 0 dX7_iceOfAll_30 rfl rfl ?_
  exact s_iret rfl dX7_iceOfAll_31
def fX7_iceOfAll_L4b (q4 : Int32 → Int32 → Mm → Option (Int32 × Mm)) (v2 : Int32) (v1 : Int32) (M : Mm) : Option (Int32 × Mm) :=
  if (M 0 6) ≤ v2 then (fX7_iceOfAll_B30 v1 M)
  else gd (inb v2 24) <|
  gd (isC layC (4 + 1 * ix v2) 3) <|
  lt (v1 + (M (4 + 1 * ix v2) 3)) fun x3 =>
  q4 (v2 + 1) x3 M
def fX7_iceOfAll_L4  : Nat → Int32 → Int32 → Mm → Option (Int32 × Mm)
  | 0 => fun _ _ _ => none
  | n + 1 => fX7_iceOfAll_L4b  (fX7_iceOfAll_L4  n)
theorem tX7_iceOfAll_L4b (l : Launch) (G : Gx) (q4 : Int32 → Int32 → Mm → Option (Int32 × Mm)) (hq4 : ∀ (v2 : Int32) (v1 : Int32) (M : Mm), Sim cQi l layC G 1 cX7_iceOfAll RX7 3 (some .int) 4 [(2, .int v2), (1, .int v1), (0, rf G 0)] [] M (q4 v2 v1 M)) (v2 : Int32) (v1 : Int32) (M : Mm) : Sim cQi l layC G 1 cX7_iceOfAll RX7 3 (some .int) 4 [(2, .int v2), (1, .int v1), (0, rf G 0)] [] M (fX7_iceOfAll_L4b q4 v2 v1 M) := by
  unfold fX7_iceOfAll_L4b
  refine s_iload_n 0 dX7_iceOfAll_4 rfl rfl ?_
  refine s_aload_n 2 dX7_iceOfAll_5 rfl rfl ?_
  refine g_X7_73 rfl dX7_iceOfAll_6 ?_
  refine s_icmpge (tgt := 30) dX7_iceOfAll_9 (by decide) ?_ ?_
  · exact s_sub [1] rfl (tX7_iceOfAll_B30 l G v1 M)
  · refine s_iload_n 1 dX7_iceOfAll_12 rfl rfl ?_
    refine s_aload_n 2 dX7_iceOfAll_13 rfl rfl ?_
    refine g_X7_24 (q := 3) rfl rfl dX7_iceOfAll_14 ?_
    refine s_iload_n 0 dX7_iceOfAll_17 rfl rfl ?_
    refine s_gd fun h1 => ?_
    refine s_aald (t := 1) (bs := 4) (sd := 1) (n := 24) rfl rfl h1 dX7_iceOfAll_18 ?_
    refine s_gd fun h2 => ?_
    refine g_X7_118 h2 dX7_iceOfAll_19 ?_
    refine s_iadd dX7_iceOfAll_22 ?_
    refine s_leti fun x3 => ?_
    refine s_istore_n (lv' := [(1, .int x3), (2, .int v2), (0, rf G 0)]) dX7_iceOfAll_23 rfl rfl rfl ?_
    refine s_iinc (k := 1) (lv' := [(2, .int (v2 + 1)), (1, .int x3), (0, rf G 0)]) dX7_iceOfAll_24 rfl ci_1 rfl rfl ?_
    refine s_goto (tgt := 4) dX7_iceOfAll_27 (by decide) ?_
    exact s_sub [0, 1, 2] rfl (hq4 (v2 + 1) x3 M)
theorem tX7_iceOfAll_L4 (l : Launch) (G : Gx) : ∀ (n : Nat) (v2 : Int32) (v1 : Int32) (M : Mm), Sim cQi l layC G 1 cX7_iceOfAll RX7 3 (some .int) 4 [(2, .int v2), (1, .int v1), (0, rf G 0)] [] M (fX7_iceOfAll_L4 n v2 v1 M)
  | 0, _, _, _ => s_none
  | n + 1, v2, v1, M => tX7_iceOfAll_L4b l G _ (tX7_iceOfAll_L4 l G n) v2 v1 M
def fX7_iceOfAll  (M : Mm) : Option (Int32 × Mm) :=
  fX7_iceOfAll_L4 FU (0 : Int32) (0 : Int32) M
theorem mX7_iceOfAll (l : Launch) (G : Gx)  (M : Mm) : Mt cQi l layC G 1 yX7_iceOfAll cX7_iceOfAll 3 (some .int) [rf G 0] M (fX7_iceOfAll M) := by
  refine Mt.of2 (own := RX7) (lv := [(0, rf G 0)]) rfl (by decide +kernel) rfl rfl ?_
  unfold fX7_iceOfAll
  refine s_iconst (v := 0) dX7_iceOfAll_0 ci_0 ?_
  refine s_istore_n (lv' := [(1, .int (0 : Int32)), (0, rf G 0)]) dX7_iceOfAll_1 rfl rfl rfl ?_
  refine s_iconst (v := 0) dX7_iceOfAll_2 ci_0 ?_
  refine s_istore_n (lv' := [(2, .int (0 : Int32)), (1, .int (0 : Int32)), (0, rf G 0)]) dX7_iceOfAll_3 rfl rfl rfl ?_
  exact s_sub [0, 1, 2] rfl (tX7_iceOfAll_L4 l G FU (0 : Int32) (0 : Int32) M)
theorem dX7_seenOf_0 : decode cX7_seenOf 0 = .ok (.bipush 9, 2) := by decide +kernel
theorem dX7_seenOf_2 : decode cX7_seenOf 2 = .ok (.istore_n 2, 1) := by decide +kernel
theorem dX7_seenOf_3 : decode cX7_seenOf 3 = .ok (.iconst 0, 1) := by decide +kernel
theorem dX7_seenOf_4 : decode cX7_seenOf 4 = .ok (.istore_n 3, 1) := by decide +kernel
theorem dX7_seenOf_5 : decode cX7_seenOf 5 = .ok (.iload_n 3, 1) := by decide +kernel
theorem dX7_seenOf_6 : decode cX7_seenOf 6 = .ok (.aload_n 0, 1) := by decide +kernel
theorem dX7_seenOf_7 : decode cX7_seenOf 7 = .ok (.getfield 30, 3) := by decide +kernel
theorem dX7_seenOf_10 : decode cX7_seenOf 10 = .ok (.iload_n 1, 1) := by decide +kernel
theorem dX7_seenOf_11 : decode cX7_seenOf 11 = .ok (.aaload, 1) := by decide +kernel
theorem dX7_seenOf_12 : decode cX7_seenOf 12 = .ok (.getfield 166, 3) := by decide +kernel
theorem dX7_seenOf_15 : decode cX7_seenOf 15 = .ok (.if_icmp .ge 30, 3) := by decide +kernel
theorem dX7_seenOf_18 : decode cX7_seenOf 18 = .ok (.iload_n 2, 1) := by decide +kernel
theorem dX7_seenOf_19 : decode cX7_seenOf 19 = .ok (.aload_n 0, 1) := by decide +kernel
theorem dX7_seenOf_20 : decode cX7_seenOf 20 = .ok (.aload_n 0, 1) := by decide +kernel
theorem dX7_seenOf_21 : decode cX7_seenOf 21 = .ok (.iload_n 1, 1) := by decide +kernel
theorem dX7_seenOf_22 : decode cX7_seenOf 22 = .ok (.iload_n 3, 1) := by decide +kernel
theorem dX7_seenOf_23 : decode cX7_seenOf 23 = .ok (.invokevirtual 169, 3) := by decide +kernel
theorem dX7_seenOf_26 : decode cX7_seenOf 26 = .ok (.aload_n 0, 1) := by decide +kernel
theorem dX7_seenOf_27 : decode cX7_seenOf 27 = .ok (.getfield 34, 3) := by decide +kernel
theorem dX7_seenOf_30 : decode cX7_seenOf 30 = .ok (.iload_n 1, 1) := by decide +kernel
theorem dX7_seenOf_31 : decode cX7_seenOf 31 = .ok (.iaload, 1) := by decide +kernel
theorem dX7_seenOf_32 : decode cX7_seenOf 32 = .ok (.invokevirtual 138, 3) := by decide +kernel
theorem dX7_seenOf_35 : decode cX7_seenOf 35 = .ok (.invokestatic 100, 3) := by decide +kernel
theorem dX7_seenOf_38 : decode cX7_seenOf 38 = .ok (.istore_n 2, 1) := by decide +kernel
theorem dX7_seenOf_39 : decode cX7_seenOf 39 = .ok (.iinc 3 1, 3) := by decide +kernel
theorem dX7_seenOf_42 : decode cX7_seenOf 42 = .ok (.goto (-37), 3) := by decide +kernel
theorem dX7_seenOf_45 : decode cX7_seenOf 45 = .ok (.iload_n 2, 1) := by decide +kernel
theorem dX7_seenOf_46 : decode cX7_seenOf 46 = .ok (.ireturn, 1) := by decide +kernel
def fX7_seenOf_B45 (v2 : Int32) (M : Mm) : Option (Int32 × Mm) :=
  some (v2, M)
theorem tX7_seenOf_B45 (l : Launch) (G : Gx) (v2 : Int32) (M : Mm) : Sim cQi l layC G 4 cX7_seenOf RX7 4 (some .int) 45 [(2, .int v2)] [] M (fX7_seenOf_B45 v2 M) := by
  unfold fX7_seenOf_B45
  refine s_iload_n 0 dX7_seenOf_45 rfl rfl ?_
  exact s_iret rfl dX7_seenOf_46
def fX7_seenOf_L5b (v1 : Int32) (q5 : Int32 → Int32 → Mm → Option (Int32 × Mm)) (v3 : Int32) (v2 : Int32) (M : Mm) : Option (Int32 × Mm) :=
  gd (inb v1 4) <|
  gd (isC layC (29 + 2 * ix v1) 5) <|
  if (M (29 + 2 * ix v1) 1) ≤ v3 then (fX7_seenOf_B45 v2 M)
  else bd (fX7_letterIn v1 v3 M) fun r3 M4 =>
  bd (fX7_seesOf r3 (M4 2 (ix v1)) M4) fun r5 M6 =>
  lt ((if r5 < v2 then r5 else v2)) fun x7 =>
  q5 (v3 + 1) x7 M6
def fX7_seenOf_L5 (v1 : Int32) : Nat → Int32 → Int32 → Mm → Option (Int32 × Mm)
  | 0 => fun _ _ _ => none
  | n + 1 => fX7_seenOf_L5b v1 (fX7_seenOf_L5 v1 n)
theorem tX7_seenOf_L5b (l : Launch) (G : Gx) (v1 : Int32) (q5 : Int32 → Int32 → Mm → Option (Int32 × Mm)) (hq5 : ∀ (v3 : Int32) (v2 : Int32) (M : Mm), Sim cQi l layC G 4 cX7_seenOf RX7 4 (some .int) 5 [(3, .int v3), (2, .int v2), (0, rf G 0), (1, .int v1)] [] M (q5 v3 v2 M)) (v3 : Int32) (v2 : Int32) (M : Mm) : Sim cQi l layC G 4 cX7_seenOf RX7 4 (some .int) 5 [(3, .int v3), (2, .int v2), (0, rf G 0), (1, .int v1)] [] M (fX7_seenOf_L5b v1 q5 v3 v2 M) := by
  unfold fX7_seenOf_L5b
  refine s_iload_n 0 dX7_seenOf_5 rfl rfl ?_
  refine s_aload_n 2 dX7_seenOf_6 rfl rfl ?_
  refine g_X7_30 (q := 28) rfl rfl dX7_seenOf_7 ?_
  refine s_iload_n 3 dX7_seenOf_10 rfl rfl ?_
  refine s_gd fun h1 => ?_
  refine s_aald (t := 2) (bs := 29) (sd := 2) (n := 4) rfl rfl h1 dX7_seenOf_11 ?_
  refine s_gd fun h2 => ?_
  refine g_X7_166 h2 dX7_seenOf_12 ?_
  refine s_icmpge (tgt := 45) dX7_seenOf_15 (by decide) ?_ ?_
  · exact s_sub [1] rfl (tX7_seenOf_B45 l G v2 M)
  · refine s_iload_n 1 dX7_seenOf_18 rfl rfl ?_
    refine s_aload_n 2 dX7_seenOf_19 rfl rfl ?_
    refine s_aload_n 2 dX7_seenOf_20 rfl rfl ?_
    refine s_iload_n 3 dX7_seenOf_21 rfl rfl ?_
    refine s_iload_n 0 dX7_seenOf_22 rfl rfl ?_
    refine s_call_r (s_runV (ci := 7) (rest := [rf G 0, .int v2]) rfl rfl (mX7_letterIn l G v1 v3 M) ok_X7_letterIn k_X7_169 rfl rfl rfl rfl dX7_seenOf_23) fun r3 M4 => ?_
    refine s_aload_n 2 dX7_seenOf_26 rfl rfl ?_
    refine g_X7_34 (q := 2) rfl rfl dX7_seenOf_27 ?_
    refine s_iload_n 3 dX7_seenOf_30 rfl rfl ?_
    refine s_iald (n := 4) rfl h1 dX7_seenOf_31 ?_
    refine s_call_i (s_runV (ci := 7) (rest := [.int v2]) rfl rfl (mX7_seesOf l G r3 (M4 2 (ix v1)) M4) ok_X7_seesOf k_X7_138 rfl rfl rfl rfl dX7_seenOf_32) fun r5 M6 => ?_
    refine s_min rfl rfl q_410 q_411 q_64 q_412 dX7_seenOf_35 ?_
    refine s_leti fun x7 => ?_
    refine s_istore_n (lv' := [(2, .int x7), (3, .int v3), (0, rf G 0), (1, .int v1)]) dX7_seenOf_38 rfl rfl rfl ?_
    refine s_iinc (k := 1) (lv' := [(3, .int (v3 + 1)), (2, .int x7), (0, rf G 0), (1, .int v1)]) dX7_seenOf_39 rfl ci_1 rfl rfl ?_
    refine s_goto (tgt := 5) dX7_seenOf_42 (by decide) ?_
    exact s_sub [0, 1, 2, 3] rfl (hq5 (v3 + 1) x7 M6)
theorem tX7_seenOf_L5 (l : Launch) (G : Gx) (v1 : Int32) : ∀ (n : Nat) (v3 : Int32) (v2 : Int32) (M : Mm), Sim cQi l layC G 4 cX7_seenOf RX7 4 (some .int) 5 [(3, .int v3), (2, .int v2), (0, rf G 0), (1, .int v1)] [] M (fX7_seenOf_L5 v1 n v3 v2 M)
  | 0, _, _, _ => s_none
  | n + 1, v3, v2, M => tX7_seenOf_L5b l G v1 _ (tX7_seenOf_L5 l G v1 n) v3 v2 M
def fX7_seenOf (a1 : Int32) (M : Mm) : Option (Int32 × Mm) :=
  fX7_seenOf_L5 a1 FU (0 : Int32) (9 : Int32) M
theorem mX7_seenOf (l : Launch) (G : Gx) (a1 : Int32) (M : Mm) : Mt cQi l layC G 4 yX7_seenOf cX7_seenOf 4 (some .int) [rf G 0, .int a1] M (fX7_seenOf a1 M) := by
  refine Mt.of2 (own := RX7) (lv := [(0, rf G 0), (1, .int a1)]) rfl (by decide +kernel) rfl rfl ?_
  unfold fX7_seenOf
  refine s_bipush (v := 9) dX7_seenOf_0 cb_9 ?_
  refine s_istore_n (lv' := [(2, .int (9 : Int32)), (0, rf G 0), (1, .int a1)]) dX7_seenOf_2 rfl rfl rfl ?_
  refine s_iconst (v := 0) dX7_seenOf_3 ci_0 ?_
  refine s_istore_n (lv' := [(3, .int (0 : Int32)), (2, .int (9 : Int32)), (0, rf G 0), (1, .int a1)]) dX7_seenOf_4 rfl rfl rfl ?_
  exact s_sub [0, 1, 2, 3] rfl (tX7_seenOf_L5 l G a1 FU (0 : Int32) (9 : Int32) M)
theorem dX7_pressSheet_0 : decode cX7_pressSheet 0 = .ok (.aload_n 0, 1) := by decide +kernel
theorem dX7_pressSheet_1 : decode cX7_pressSheet 1 = .ok (.iload_n 1, 1) := by decide +kernel
theorem dX7_pressSheet_2 : decode cX7_pressSheet 2 = .ok (.invokevirtual 173, 3) := by decide +kernel
theorem dX7_pressSheet_5 : decode cX7_pressSheet 5 = .ok (.iconst 3, 1) := by decide +kernel
theorem dX7_pressSheet_6 : decode cX7_pressSheet 6 = .ok (.if_icmp .lt 7, 3) := by decide +kernel
theorem dX7_pressSheet_9 : decode cX7_pressSheet 9 = .ok (.iconst 1, 1) := by decide +kernel
theorem dX7_pressSheet_10 : decode cX7_pressSheet 10 = .ok (.goto 4, 3) := by decide +kernel
theorem dX7_pressSheet_13 : decode cX7_pressSheet 13 = .ok (.iconst 0, 1) := by decide +kernel
theorem dX7_pressSheet_14 : decode cX7_pressSheet 14 = .ok (.istore_n 2, 1) := by decide +kernel
theorem dX7_pressSheet_15 : decode cX7_pressSheet 15 = .ok (.iconst 0, 1) := by decide +kernel
theorem dX7_pressSheet_16 : decode cX7_pressSheet 16 = .ok (.istore_n 3, 1) := by decide +kernel
theorem dX7_pressSheet_17 : decode cX7_pressSheet 17 = .ok (.iload_n 3, 1) := by decide +kernel
theorem dX7_pressSheet_18 : decode cX7_pressSheet 18 = .ok (.aload_n 0, 1) := by decide +kernel
theorem dX7_pressSheet_19 : decode cX7_pressSheet 19 = .ok (.getfield 30, 3) := by decide +kernel
theorem dX7_pressSheet_22 : decode cX7_pressSheet 22 = .ok (.iload_n 1, 1) := by decide +kernel
theorem dX7_pressSheet_23 : decode cX7_pressSheet 23 = .ok (.aaload, 1) := by decide +kernel
theorem dX7_pressSheet_24 : decode cX7_pressSheet 24 = .ok (.getfield 166, 3) := by decide +kernel
theorem dX7_pressSheet_27 : decode cX7_pressSheet 27 = .ok (.if_icmp .ge 37, 3) := by decide +kernel
theorem dX7_pressSheet_30 : decode cX7_pressSheet 30 = .ok (.aload_n 0, 1) := by decide +kernel
theorem dX7_pressSheet_31 : decode cX7_pressSheet 31 = .ok (.iload_n 1, 1) := by decide +kernel
theorem dX7_pressSheet_32 : decode cX7_pressSheet 32 = .ok (.iload_n 3, 1) := by decide +kernel
theorem dX7_pressSheet_33 : decode cX7_pressSheet 33 = .ok (.invokevirtual 169, 3) := by decide +kernel
theorem dX7_pressSheet_36 : decode cX7_pressSheet 36 = .ok (.astore 4, 2) := by decide +kernel
theorem dX7_pressSheet_38 : decode cX7_pressSheet 38 = .ok (.aload_n 0, 1) := by decide +kernel
theorem dX7_pressSheet_39 : decode cX7_pressSheet 39 = .ok (.aload 4, 2) := by decide +kernel
theorem dX7_pressSheet_41 : decode cX7_pressSheet 41 = .ok (.aload_n 0, 1) := by decide +kernel
theorem dX7_pressSheet_42 : decode cX7_pressSheet 42 = .ok (.aload 4, 2) := by decide +kernel
theorem dX7_pressSheet_44 : decode cX7_pressSheet 44 = .ok (.invokevirtual 130, 3) := by decide +kernel
theorem dX7_pressSheet_47 : decode cX7_pressSheet 47 = .ok (.invokevirtual 176, 3) := by decide +kernel
theorem dX7_pressSheet_50 : decode cX7_pressSheet 50 = .ok (.invokevirtual 179, 3) := by decide +kernel
theorem dX7_pressSheet_53 : decode cX7_pressSheet 53 = .ok (.aload 4, 2) := by decide +kernel
theorem dX7_pressSheet_55 : decode cX7_pressSheet 55 = .ok (.invokevirtual 182, 3) := by decide +kernel
theorem dX7_pressSheet_58 : decode cX7_pressSheet 58 = .ok (.iinc 3 1, 3) := by decide +kernel
theorem dX7_pressSheet_61 : decode cX7_pressSheet 61 = .ok (.goto (-44), 3) := by decide +kernel
theorem dX7_pressSheet_64 : decode cX7_pressSheet 64 = .ok (.aload_n 0, 1) := by decide +kernel
theorem dX7_pressSheet_65 : decode cX7_pressSheet 65 = .ok (.getfield 34, 3) := by decide +kernel
theorem dX7_pressSheet_68 : decode cX7_pressSheet 68 = .ok (.iload_n 1, 1) := by decide +kernel
theorem dX7_pressSheet_69 : decode cX7_pressSheet 69 = .ok (.dup2, 1) := by decide +kernel
theorem dX7_pressSheet_70 : decode cX7_pressSheet 70 = .ok (.iaload, 1) := by decide +kernel
theorem dX7_pressSheet_71 : decode cX7_pressSheet 71 = .ok (.iconst 1, 1) := by decide +kernel
theorem dX7_pressSheet_72 : decode cX7_pressSheet 72 = .ok (.iadd, 1) := by decide +kernel
theorem dX7_pressSheet_73 : decode cX7_pressSheet 73 = .ok (.iastore, 1) := by decide +kernel
theorem dX7_pressSheet_74 : decode cX7_pressSheet 74 = .ok (.iload_n 2, 1) := by decide +kernel
theorem dX7_pressSheet_75 : decode cX7_pressSheet 75 = .ok (.ireturn, 1) := by decide +kernel
def fX7_pressSheet_B64 (v2 : Int32) (v1 : Int32) (M : Mm) : Option (Bool × Mm) :=
  gd (inb v1 4) <|
  lt (wr M 2 (ix v1) ((M 2 (ix v1)) + (1 : Int32))) fun M6 =>
  gd (isb v2) (some (decide (v2 = 1), M6))
theorem tX7_pressSheet_B64 (l : Launch) (G : Gx) (v2 : Int32) (v1 : Int32) (M : Mm) : Sim cQz l layC G 5 cX7_pressSheet RX7 5 (some .boolean) 64 [(2, .int v2), (0, rf G 0), (1, .int v1)] [] M (fX7_pressSheet_B64 v2 v1 M) := by
  unfold fX7_pressSheet_B64
  refine s_aload_n 1 dX7_pressSheet_64 rfl rfl ?_
  refine g_X7_34 (q := 2) rfl rfl dX7_pressSheet_65 ?_
  refine s_iload_n 2 dX7_pressSheet_68 rfl rfl ?_
  refine s_dup2 dX7_pressSheet_69 rfl rfl ?_
  refine s_gd fun h5 => ?_
  refine s_iald (n := 4) rfl h5 dX7_pressSheet_70 ?_
  refine s_iconst (v := 1) dX7_pressSheet_71 ci_1 ?_
  refine s_iadd dX7_pressSheet_72 ?_
  refine s_iast (n := 4) rfl h5 dX7_pressSheet_73 ?_
  refine s_letM fun M6 => ?_
  refine s_iload_n 0 dX7_pressSheet_74 rfl rfl ?_
  exact s_zretI rfl dX7_pressSheet_75
def fX7_pressSheet_L17b (v2 : Int32) (v1 : Int32) (q17 : Int32 → Mm → Option (Bool × Mm)) (v3 : Int32) (M : Mm) : Option (Bool × Mm) :=
  gd (inb v1 4) <|
  gd (isC layC (29 + 2 * ix v1) 5) <|
  if (M (29 + 2 * ix v1) 1) ≤ v3 then (fX7_pressSheet_B64 v2 v1 M)
  else bd (fX7_letterIn v1 v3 M) fun r7 M8 =>
  bd (fX7_meltsOf r7 M8) fun r9 M10 =>
  gd (isC layC r7 3) <|
  bd (fX3_takeIce r7 r9 M10) fun r12 M13 =>
  bd (fX7_dripInto r12 M13) fun r14 M15 =>
  bd (fX3_grow r7 M15) fun r16 M17 =>
  q17 (v3 + 1) M17
def fX7_pressSheet_L17 (v2 : Int32) (v1 : Int32) : Nat → Int32 → Mm → Option (Bool × Mm)
  | 0 => fun _ _ => none
  | n + 1 => fX7_pressSheet_L17b v2 v1 (fX7_pressSheet_L17 v2 v1 n)
theorem tX7_pressSheet_L17b (l : Launch) (G : Gx) (v2 : Int32) (v1 : Int32) (q17 : Int32 → Mm → Option (Bool × Mm)) (hq17 : ∀ (v3 : Int32) (M : Mm), Sim cQz l layC G 5 cX7_pressSheet RX7 5 (some .boolean) 17 [(3, .int v3), (2, .int v2), (0, rf G 0), (1, .int v1)] [] M (q17 v3 M)) (v3 : Int32) (M : Mm) : Sim cQz l layC G 5 cX7_pressSheet RX7 5 (some .boolean) 17 [(3, .int v3), (2, .int v2), (0, rf G 0), (1, .int v1)] [] M (fX7_pressSheet_L17b v2 v1 q17 v3 M) := by
  unfold fX7_pressSheet_L17b
  refine s_iload_n 0 dX7_pressSheet_17 rfl rfl ?_
  refine s_aload_n 2 dX7_pressSheet_18 rfl rfl ?_
  refine g_X7_30 (q := 28) rfl rfl dX7_pressSheet_19 ?_
  refine s_iload_n 3 dX7_pressSheet_22 rfl rfl ?_
  refine s_gd fun h3 => ?_
  refine s_aald (t := 2) (bs := 29) (sd := 2) (n := 4) rfl rfl h3 dX7_pressSheet_23 ?_
  refine s_gd fun h4 => ?_
  refine g_X7_166 h4 dX7_pressSheet_24 ?_
  refine s_icmpge (tgt := 64) dX7_pressSheet_27 (by decide) ?_ ?_
  · exact s_sub [1, 2, 3] rfl (tX7_pressSheet_B64 l G v2 v1 M)
  · refine s_aload_n 2 dX7_pressSheet_30 rfl rfl ?_
    refine s_iload_n 3 dX7_pressSheet_31 rfl rfl ?_
    refine s_iload_n 0 dX7_pressSheet_32 rfl rfl ?_
    refine s_call_r (s_runV (ci := 7) (rest := []) rfl rfl (mX7_letterIn l G v1 v3 M) ok_X7_letterIn k_X7_169 rfl rfl rfl rfl dX7_pressSheet_33) fun r7 M8 => ?_
    refine s_astore (lv' := [(4, rf G r7), (3, .int v3), (2, .int v2), (0, rf G 0), (1, .int v1)]) dX7_pressSheet_36 rfl rfl ?_
    refine s_aload_n 3 dX7_pressSheet_38 rfl rfl ?_
    refine s_aload 0 dX7_pressSheet_39 rfl ?_
    refine s_aload_n 3 dX7_pressSheet_41 rfl rfl ?_
    refine s_aload 0 dX7_pressSheet_42 rfl ?_
    refine s_call_i (s_runV (ci := 7) (rest := [rf G r7, rf G 0]) rfl rfl (mX7_meltsOf l G r7 M8) ok_X7_meltsOf k_X7_130 rfl rfl rfl rfl dX7_pressSheet_44) fun r9 M10 => ?_
    refine s_gd fun h11 => ?_
    refine s_call_i (s_runV (ci := 3) (rest := [rf G 0]) h11 rfl (mX3_takeIce l G r7 r9 M10) ok_X3_takeIce k_X7_176 rfl rfl rfl rfl dX7_pressSheet_47) fun r12 M13 => ?_
    refine s_call_v (s_runV (ci := 7) (rest := []) rfl rfl (mX7_dripInto l G r12 M13) ok_X7_dripInto k_X7_179 rfl rfl rfl rfl dX7_pressSheet_50) fun r14 M15 => ?_
    refine s_aload 0 dX7_pressSheet_53 rfl ?_
    refine s_call_v (s_runV (ci := 3) (rest := []) h11 rfl (mX3_grow l G r7 M15) ok_X3_grow k_X7_182 rfl rfl rfl rfl dX7_pressSheet_55) fun r16 M17 => ?_
    refine s_iinc (k := 1) (lv' := [(3, .int (v3 + 1)), (4, rf G r7), (2, .int v2), (0, rf G 0), (1, .int v1)]) dX7_pressSheet_58 rfl ci_1 rfl rfl ?_
    refine s_goto (tgt := 17) dX7_pressSheet_61 (by decide) ?_
    exact s_sub [0, 2, 3, 4] rfl (hq17 (v3 + 1) M17)
theorem tX7_pressSheet_L17 (l : Launch) (G : Gx) (v2 : Int32) (v1 : Int32) : ∀ (n : Nat) (v3 : Int32) (M : Mm), Sim cQz l layC G 5 cX7_pressSheet RX7 5 (some .boolean) 17 [(3, .int v3), (2, .int v2), (0, rf G 0), (1, .int v1)] [] M (fX7_pressSheet_L17 v2 v1 n v3 M)
  | 0, _, _ => s_none
  | n + 1, v3, M => tX7_pressSheet_L17b l G v2 v1 _ (tX7_pressSheet_L17 l G v2 v1 n) v3 M
def fX7_pressSheet_B14 (v1 : Int32) (w0 : Int32) (M : Mm) : Option (Bool × Mm) :=
  fX7_pressSheet_L17 w0 v1 FU (0 : Int32) M
theorem tX7_pressSheet_B14 (l : Launch) (G : Gx) (v1 : Int32) (w0 : Int32) (M : Mm) : Sim cQz l layC G 5 cX7_pressSheet RX7 5 (some .boolean) 14 [(0, rf G 0), (1, .int v1)] [.int w0] M (fX7_pressSheet_B14 v1 w0 M) := by
  unfold fX7_pressSheet_B14
  refine s_istore_n (lv' := [(2, .int w0), (0, rf G 0), (1, .int v1)]) dX7_pressSheet_14 rfl rfl rfl ?_
  refine s_iconst (v := 0) dX7_pressSheet_15 ci_0 ?_
  refine s_istore_n (lv' := [(3, .int (0 : Int32)), (2, .int w0), (0, rf G 0), (1, .int v1)]) dX7_pressSheet_16 rfl rfl rfl ?_
  exact s_sub [0, 1, 2, 3] rfl (tX7_pressSheet_L17 l G w0 v1 FU (0 : Int32) M)
def fX7_pressSheet (a1 : Int32) (M : Mm) : Option (Bool × Mm) :=
  bd (fX7_seenOf a1 M) fun r1 M2 =>
  if r1 < (3 : Int32) then (fX7_pressSheet_B14 a1 (0 : Int32) M2)
  else fX7_pressSheet_B14 a1 (1 : Int32) M2
theorem mX7_pressSheet (l : Launch) (G : Gx) (a1 : Int32) (M : Mm) : Mt cQz l layC G 5 yX7_pressSheet cX7_pressSheet 5 (some .boolean) [rf G 0, .int a1] M (fX7_pressSheet a1 M) := by
  refine Mt.of2 (own := RX7) (lv := [(0, rf G 0), (1, .int a1)]) rfl (by decide +kernel) rfl rfl ?_
  unfold fX7_pressSheet
  refine s_aload_n 0 dX7_pressSheet_0 rfl rfl ?_
  refine s_iload_n 1 dX7_pressSheet_1 rfl rfl ?_
  refine s_call_i (s_runV (ci := 7) (rest := []) rfl rfl (mX7_seenOf l G a1 M) ok_X7_seenOf k_X7_173 rfl rfl rfl rfl dX7_pressSheet_2) fun r1 M2 => ?_
  refine s_iconst (v := 3) dX7_pressSheet_5 ci_3 ?_
  refine s_icmplt (tgt := 13) dX7_pressSheet_6 (by decide) ?_ ?_
  · refine s_iconst (v := 0) dX7_pressSheet_13 ci_0 ?_
    exact s_sub [0, 1] rfl (tX7_pressSheet_B14 l G a1 (0 : Int32) M2)
  · refine s_iconst (v := 1) dX7_pressSheet_9 ci_1 ?_
    refine s_goto (tgt := 14) dX7_pressSheet_10 (by decide) ?_
    exact s_sub [0, 1] rfl (tX7_pressSheet_B14 l G a1 (1 : Int32) M2)
theorem dX7_emptyPage_0 : decode cX7_emptyPage 0 = .ok (.aload_n 0, 1) := by decide +kernel
theorem dX7_emptyPage_1 : decode cX7_emptyPage 1 = .ok (.getfield 30, 3) := by decide +kernel
theorem dX7_emptyPage_4 : decode cX7_emptyPage 4 = .ok (.iload_n 1, 1) := by decide +kernel
theorem dX7_emptyPage_5 : decode cX7_emptyPage 5 = .ok (.aaload, 1) := by decide +kernel
theorem dX7_emptyPage_6 : decode cX7_emptyPage 6 = .ok (.getfield 166, 3) := by decide +kernel
theorem dX7_emptyPage_9 : decode cX7_emptyPage 9 = .ok (.istore_n 2, 1) := by decide +kernel
theorem dX7_emptyPage_10 : decode cX7_emptyPage 10 = .ok (.iconst 0, 1) := by decide +kernel
theorem dX7_emptyPage_11 : decode cX7_emptyPage 11 = .ok (.istore_n 3, 1) := by decide +kernel
theorem dX7_emptyPage_12 : decode cX7_emptyPage 12 = .ok (.iload_n 3, 1) := by decide +kernel
theorem dX7_emptyPage_13 : decode cX7_emptyPage 13 = .ok (.iload_n 2, 1) := by decide +kernel
theorem dX7_emptyPage_14 : decode cX7_emptyPage 14 = .ok (.if_icmp .ge 19, 3) := by decide +kernel
theorem dX7_emptyPage_17 : decode cX7_emptyPage 17 = .ok (.aload_n 0, 1) := by decide +kernel
theorem dX7_emptyPage_18 : decode cX7_emptyPage 18 = .ok (.iload_n 1, 1) := by decide +kernel
theorem dX7_emptyPage_19 : decode cX7_emptyPage 19 = .ok (.iload_n 3, 1) := by decide +kernel
theorem dX7_emptyPage_20 : decode cX7_emptyPage 20 = .ok (.invokevirtual 169, 3) := by decide +kernel
theorem dX7_emptyPage_23 : decode cX7_emptyPage 23 = .ok (.iconst (-1), 1) := by decide +kernel
theorem dX7_emptyPage_24 : decode cX7_emptyPage 24 = .ok (.putfield 124, 3) := by decide +kernel
theorem dX7_emptyPage_27 : decode cX7_emptyPage 27 = .ok (.iinc 3 1, 3) := by decide +kernel
theorem dX7_emptyPage_30 : decode cX7_emptyPage 30 = .ok (.goto (-18), 3) := by decide +kernel
theorem dX7_emptyPage_33 : decode cX7_emptyPage 33 = .ok (.aload_n 0, 1) := by decide +kernel
theorem dX7_emptyPage_34 : decode cX7_emptyPage 34 = .ok (.getfield 30, 3) := by decide +kernel
theorem dX7_emptyPage_37 : decode cX7_emptyPage 37 = .ok (.iload_n 1, 1) := by decide +kernel
theorem dX7_emptyPage_38 : decode cX7_emptyPage 38 = .ok (.aaload, 1) := by decide +kernel
theorem dX7_emptyPage_39 : decode cX7_emptyPage 39 = .ok (.invokevirtual 185, 3) := by decide +kernel
theorem dX7_emptyPage_42 : decode cX7_emptyPage 42 = .ok (.iload_n 2, 1) := by decide +kernel
theorem dX7_emptyPage_43 : decode cX7_emptyPage 43 = .ok (.ireturn, 1) := by decide +kernel
def fX7_emptyPage_B33 (v2 : Int32) (v1 : Int32) (M : Mm) : Option (Int32 × Mm) :=
  gd (inb v1 4) <|
  gd (isC layC (29 + 2 * ix v1) 5) <|
  bd (fX5_clear (29 + 2 * ix v1) M) fun r6 M7 =>
  some (v2, M7)
theorem tX7_emptyPage_B33 (l : Launch) (G : Gx) (v2 : Int32) (v1 : Int32) (M : Mm) : Sim cQi l layC G 4 cX7_emptyPage RX7 4 (some .int) 33 [(2, .int v2), (0, rf G 0), (1, .int v1)] [] M (fX7_emptyPage_B33 v2 v1 M) := by
  unfold fX7_emptyPage_B33
  refine s_aload_n 1 dX7_emptyPage_33 rfl rfl ?_
  refine g_X7_30 (q := 28) rfl rfl dX7_emptyPage_34 ?_
  refine s_iload_n 2 dX7_emptyPage_37 rfl rfl ?_
  refine s_gd fun h4 => ?_
  refine s_aald (t := 2) (bs := 29) (sd := 2) (n := 4) rfl rfl h4 dX7_emptyPage_38 ?_
  refine s_gd fun h5 => ?_
  refine s_call_v (s_runV (ci := 5) (rest := []) h5 rfl (mX5_clear l G (29 + 2 * ix v1) M) ok_X5_clear k_X7_185 rfl rfl rfl rfl dX7_emptyPage_39) fun r6 M7 => ?_
  refine s_iload_n 0 dX7_emptyPage_42 rfl rfl ?_
  exact s_iret rfl dX7_emptyPage_43
def fX7_emptyPage_L12b (v2 : Int32) (v1 : Int32) (q12 : Int32 → Mm → Option (Int32 × Mm)) (v3 : Int32) (M : Mm) : Option (Int32 × Mm) :=
  if v2 ≤ v3 then (fX7_emptyPage_B33 v2 v1 M)
  else bd (fX7_letterIn v1 v3 M) fun r8 M9 =>
  gd (isC layC r8 3) <|
  lt (wr M9 r8 5 (-1 : Int32)) fun M11 =>
  q12 (v3 + 1) M11
def fX7_emptyPage_L12 (v2 : Int32) (v1 : Int32) : Nat → Int32 → Mm → Option (Int32 × Mm)
  | 0 => fun _ _ => none
  | n + 1 => fX7_emptyPage_L12b v2 v1 (fX7_emptyPage_L12 v2 v1 n)
theorem tX7_emptyPage_L12b (l : Launch) (G : Gx) (v2 : Int32) (v1 : Int32) (q12 : Int32 → Mm → Option (Int32 × Mm)) (hq12 : ∀ (v3 : Int32) (M : Mm), Sim cQi l layC G 4 cX7_emptyPage RX7 4 (some .int) 12 [(3, .int v3), (2, .int v2), (0, rf G 0), (1, .int v1)] [] M (q12 v3 M)) (v3 : Int32) (M : Mm) : Sim cQi l layC G 4 cX7_emptyPage RX7 4 (some .int) 12 [(3, .int v3), (2, .int v2), (0, rf G 0), (1, .int v1)] [] M (fX7_emptyPage_L12b v2 v1 q12 v3 M) := by
  unfold fX7_emptyPage_L12b
  refine s_iload_n 0 dX7_emptyPage_12 rfl rfl ?_
  refine s_iload_n 1 dX7_emptyPage_13 rfl rfl ?_
  refine s_icmpge (tgt := 33) dX7_emptyPage_14 (by decide) ?_ ?_
  · exact s_sub [1, 2, 3] rfl (tX7_emptyPage_B33 l G v2 v1 M)
  · refine s_aload_n 2 dX7_emptyPage_17 rfl rfl ?_
    refine s_iload_n 3 dX7_emptyPage_18 rfl rfl ?_
    refine s_iload_n 0 dX7_emptyPage_19 rfl rfl ?_
    refine s_call_r (s_runV (ci := 7) (rest := []) rfl rfl (mX7_letterIn l G v1 v3 M) ok_X7_letterIn k_X7_169 rfl rfl rfl rfl dX7_emptyPage_20) fun r8 M9 => ?_
    refine s_iconst (v := -1) dX7_emptyPage_23 ci_m1 ?_
    refine s_gd fun h10 => ?_
    refine p_X7_124 h10 dX7_emptyPage_24 ?_
    refine s_letM fun M11 => ?_
    refine s_iinc (k := 0) (lv' := [(3, .int (v3 + 1)), (2, .int v2), (0, rf G 0), (1, .int v1)]) dX7_emptyPage_27 rfl ci_1 rfl rfl ?_
    refine s_goto (tgt := 12) dX7_emptyPage_30 (by decide) ?_
    exact s_sub [0, 1, 2, 3] rfl (hq12 (v3 + 1) M11)
theorem tX7_emptyPage_L12 (l : Launch) (G : Gx) (v2 : Int32) (v1 : Int32) : ∀ (n : Nat) (v3 : Int32) (M : Mm), Sim cQi l layC G 4 cX7_emptyPage RX7 4 (some .int) 12 [(3, .int v3), (2, .int v2), (0, rf G 0), (1, .int v1)] [] M (fX7_emptyPage_L12 v2 v1 n v3 M)
  | 0, _, _ => s_none
  | n + 1, v3, M => tX7_emptyPage_L12b l G v2 v1 _ (tX7_emptyPage_L12 l G v2 v1 n) v3 M
def fX7_emptyPage (a1 : Int32) (M : Mm) : Option (Int32 × Mm) :=
  gd (inb a1 4) <|
  gd (isC layC (29 + 2 * ix a1) 5) <|
  lt (M (29 + 2 * ix a1) 1) fun x3 =>
  fX7_emptyPage_L12 x3 a1 FU (0 : Int32) M
theorem mX7_emptyPage (l : Launch) (G : Gx) (a1 : Int32) (M : Mm) : Mt cQi l layC G 4 yX7_emptyPage cX7_emptyPage 4 (some .int) [rf G 0, .int a1] M (fX7_emptyPage a1 M) := by
  refine Mt.of2 (own := RX7) (lv := [(0, rf G 0), (1, .int a1)]) rfl (by decide +kernel) rfl rfl ?_
  unfold fX7_emptyPage
  refine s_aload_n 0 dX7_emptyPage_0 rfl rfl ?_
  refine g_X7_30 (q := 28) rfl rfl dX7_emptyPage_1 ?_
  refine s_iload_n 1 dX7_emptyPage_4 rfl rfl ?_
  refine s_gd fun h1 => ?_
  refine s_aald (t := 2) (bs := 29) (sd := 2) (n := 4) rfl rfl h1 dX7_emptyPage_5 ?_
  refine s_gd fun h2 => ?_
  refine g_X7_166 h2 dX7_emptyPage_6 ?_
  refine s_leti fun x3 => ?_
  refine s_istore_n (lv' := [(2, .int x3), (0, rf G 0), (1, .int a1)]) dX7_emptyPage_9 rfl rfl rfl ?_
  refine s_iconst (v := 0) dX7_emptyPage_10 ci_0 ?_
  refine s_istore_n (lv' := [(3, .int (0 : Int32)), (2, .int x3), (0, rf G 0), (1, .int a1)]) dX7_emptyPage_11 rfl rfl rfl ?_
  exact s_sub [0, 1, 2, 3] rfl (tX7_emptyPage_L12 l G x3 a1 FU (0 : Int32) M)
theorem dX7_wordFault_0 : decode cX7_wordFault 0 = .ok (.iconst 0, 1) := by decide +kernel
theorem dX7_wordFault_1 : decode cX7_wordFault 1 = .ok (.istore_n 1, 1) := by decide +kernel
theorem dX7_wordFault_2 : decode cX7_wordFault 2 = .ok (.iload_n 1, 1) := by decide +kernel
theorem dX7_wordFault_3 : decode cX7_wordFault 3 = .ok (.aload_n 0, 1) := by decide +kernel
theorem dX7_wordFault_4 : decode cX7_wordFault 4 = .ok (.getfield 53, 3) := by decide +kernel
theorem dX7_wordFault_7 : decode cX7_wordFault 7 = .ok (.getfield 166, 3) := by decide +kernel
theorem dX7_wordFault_10 : decode cX7_wordFault 10 = .ok (.if_icmp .ge 31, 3) := by decide +kernel
theorem dX7_wordFault_13 : decode cX7_wordFault 13 = .ok (.iload_n 1, 1) := by decide +kernel
theorem dX7_wordFault_14 : decode cX7_wordFault 14 = .ok (.bipush 8, 2) := by decide +kernel
theorem dX7_wordFault_16 : decode cX7_wordFault 16 = .ok (.if_icmp .ge 17, 3) := by decide +kernel
theorem dX7_wordFault_19 : decode cX7_wordFault 19 = .ok (.aload_n 0, 1) := by decide +kernel
theorem dX7_wordFault_20 : decode cX7_wordFault 20 = .ok (.getfield 53, 3) := by decide +kernel
theorem dX7_wordFault_23 : decode cX7_wordFault 23 = .ok (.iload_n 1, 1) := by decide +kernel
theorem dX7_wordFault_24 : decode cX7_wordFault 24 = .ok (.invokevirtual 162, 3) := by decide +kernel
theorem dX7_wordFault_27 : decode cX7_wordFault 27 = .ok (.invokestatic 188, 3) := by decide +kernel
theorem dX7_wordFault_30 : decode cX7_wordFault 30 = .ok (.ifCond .ne 5, 3) := by decide +kernel
theorem dX7_wordFault_33 : decode cX7_wordFault 33 = .ok (.iload_n 1, 1) := by decide +kernel
theorem dX7_wordFault_34 : decode cX7_wordFault 34 = .ok (.ireturn, 1) := by decide +kernel
theorem dX7_wordFault_35 : decode cX7_wordFault 35 = .ok (.iinc 1 1, 3) := by decide +kernel
theorem dX7_wordFault_38 : decode cX7_wordFault 38 = .ok (.goto (-36), 3) := by decide +kernel
theorem dX7_wordFault_41 : decode cX7_wordFault 41 = .ok (.aload_n 0, 1) := by decide +kernel
theorem dX7_wordFault_42 : decode cX7_wordFault 42 = .ok (.getfield 53, 3) := by decide +kernel
theorem dX7_wordFault_45 : decode cX7_wordFault 45 = .ok (.getfield 166, 3) := by decide +kernel
theorem dX7_wordFault_48 : decode cX7_wordFault 48 = .ok (.ifCond .ne 7, 3) := by decide +kernel
theorem dX7_wordFault_51 : decode cX7_wordFault 51 = .ok (.iconst 0, 1) := by decide +kernel
theorem dX7_wordFault_52 : decode cX7_wordFault 52 = .ok (.goto 4, 3) := by decide +kernel
theorem dX7_wordFault_55 : decode cX7_wordFault 55 = .ok (.iconst (-1), 1) := by decide +kernel
theorem dX7_wordFault_56 : decode cX7_wordFault 56 = .ok (.ireturn, 1) := by decide +kernel
def fX7_wordFault_B56 (w0 : Int32) (M : Mm) : Option (Int32 × Mm) :=
  some (w0, M)
theorem tX7_wordFault_B56 (l : Launch) (G : Gx) (w0 : Int32) (M : Mm) : Sim cQi l layC G 3 cX7_wordFault RX7 2 (some .int) 56 [] [.int w0] M (fX7_wordFault_B56 w0 M) := by
  unfold fX7_wordFault_B56
  exact s_iret rfl dX7_wordFault_56
def fX7_wordFault_B41 (M : Mm) : Option (Int32 × Mm) :=
  if (M 64 1) = 0 then (fX7_wordFault_B56 (0 : Int32) M)
  else fX7_wordFault_B56 (-1 : Int32) M
theorem tX7_wordFault_B41 (l : Launch) (G : Gx) (M : Mm) : Sim cQi l layC G 3 cX7_wordFault RX7 2 (some .int) 41 [(0, rf G 0)] [] M (fX7_wordFault_B41 M) := by
  unfold fX7_wordFault_B41
  refine s_aload_n 0 dX7_wordFault_41 rfl rfl ?_
  refine g_X7_53 (q := 64) rfl rfl dX7_wordFault_42 ?_
  refine g_X7_166 rfl dX7_wordFault_45 ?_
  refine s_ifne (tgt := 55) dX7_wordFault_48 (by decide) ?_ ?_
  · refine s_iconst (v := -1) dX7_wordFault_55 ci_m1 ?_
    exact s_sub [] rfl (tX7_wordFault_B56 l G (-1 : Int32) M)
  · refine s_iconst (v := 0) dX7_wordFault_51 ci_0 ?_
    refine s_goto (tgt := 56) dX7_wordFault_52 (by decide) ?_
    exact s_sub [] rfl (tX7_wordFault_B56 l G (0 : Int32) M)
def fX7_wordFault_B33 (v1 : Int32) (M : Mm) : Option (Int32 × Mm) :=
  some (v1, M)
theorem tX7_wordFault_B33 (l : Launch) (G : Gx) (v1 : Int32) (M : Mm) : Sim cQi l layC G 3 cX7_wordFault RX7 2 (some .int) 33 [(1, .int v1)] [] M (fX7_wordFault_B33 v1 M) := by
  unfold fX7_wordFault_B33
  refine s_iload_n 0 dX7_wordFault_33 rfl rfl ?_
  exact s_iret rfl dX7_wordFault_34
def fX7_wordFault_L2b (q2 : Int32 → Mm → Option (Int32 × Mm)) (v1 : Int32) (M : Mm) : Option (Int32 × Mm) :=
  if (M 64 1) ≤ v1 then (fX7_wordFault_B41 M)
  else if (8 : Int32) ≤ v1 then (fX7_wordFault_B33 v1 M)
  else bd (fX5_at 64 v1 M) fun r1 M2 =>
  bd (fX9_isSmallLetter r1 M2) fun r3 M4 =>
  if r3 = true then (q2 (v1 + 1) M4)
  else fX7_wordFault_B33 v1 M4
def fX7_wordFault_L2  : Nat → Int32 → Mm → Option (Int32 × Mm)
  | 0 => fun _ _ => none
  | n + 1 => fX7_wordFault_L2b  (fX7_wordFault_L2  n)
theorem tX7_wordFault_L2b (l : Launch) (G : Gx) (q2 : Int32 → Mm → Option (Int32 × Mm)) (hq2 : ∀ (v1 : Int32) (M : Mm), Sim cQi l layC G 3 cX7_wordFault RX7 2 (some .int) 2 [(1, .int v1), (0, rf G 0)] [] M (q2 v1 M)) (v1 : Int32) (M : Mm) : Sim cQi l layC G 3 cX7_wordFault RX7 2 (some .int) 2 [(1, .int v1), (0, rf G 0)] [] M (fX7_wordFault_L2b q2 v1 M) := by
  unfold fX7_wordFault_L2b
  refine s_iload_n 0 dX7_wordFault_2 rfl rfl ?_
  refine s_aload_n 1 dX7_wordFault_3 rfl rfl ?_
  refine g_X7_53 (q := 64) rfl rfl dX7_wordFault_4 ?_
  refine g_X7_166 rfl dX7_wordFault_7 ?_
  refine s_icmpge (tgt := 41) dX7_wordFault_10 (by decide) ?_ ?_
  · exact s_sub [1] rfl (tX7_wordFault_B41 l G M)
  · refine s_iload_n 0 dX7_wordFault_13 rfl rfl ?_
    refine s_bipush (v := 8) dX7_wordFault_14 cb_8 ?_
    refine s_icmpge (tgt := 33) dX7_wordFault_16 (by decide) ?_ ?_
    · exact s_sub [0] rfl (tX7_wordFault_B33 l G v1 M)
    · refine s_aload_n 1 dX7_wordFault_19 rfl rfl ?_
      refine g_X7_53 (q := 64) rfl rfl dX7_wordFault_20 ?_
      refine s_iload_n 0 dX7_wordFault_23 rfl rfl ?_
      refine s_call_i (s_runV (ci := 5) (rest := []) rfl rfl (mX5_at l G 64 v1 M) ok_X5_at k_X7_162 rfl rfl rfl rfl dX7_wordFault_24) fun r1 M2 => ?_
      refine s_call_z (s_runSN (rest := []) (mX9_isSmallLetter l G r1 M2) ok_X9_isSmallLetter k_X7_188 rfl rfl rfl rfl dX7_wordFault_27) fun r3 M4 => ?_
      refine s_ifneB (tgt := 35) dX7_wordFault_30 (by decide) ?_ ?_
      · refine s_iinc (k := 0) (lv' := [(1, .int (v1 + 1)), (0, rf G 0)]) dX7_wordFault_35 rfl ci_1 rfl rfl ?_
        refine s_goto (tgt := 2) dX7_wordFault_38 (by decide) ?_
        exact s_sub [0, 1] rfl (hq2 (v1 + 1) M4)
      · exact s_sub [0] rfl (tX7_wordFault_B33 l G v1 M4)
theorem tX7_wordFault_L2 (l : Launch) (G : Gx) : ∀ (n : Nat) (v1 : Int32) (M : Mm), Sim cQi l layC G 3 cX7_wordFault RX7 2 (some .int) 2 [(1, .int v1), (0, rf G 0)] [] M (fX7_wordFault_L2 n v1 M)
  | 0, _, _ => s_none
  | n + 1, v1, M => tX7_wordFault_L2b l G _ (tX7_wordFault_L2 l G n) v1 M
def fX7_wordFault  (M : Mm) : Option (Int32 × Mm) :=
  fX7_wordFault_L2 FU (0 : Int32) M
theorem mX7_wordFault (l : Launch) (G : Gx)  (M : Mm) : Mt cQi l layC G 3 yX7_wordFault cX7_wordFault 2 (some .int) [rf G 0] M (fX7_wordFault M) := by
  refine Mt.of2 (own := RX7) (lv := [(0, rf G 0)]) rfl (by decide +kernel) rfl rfl ?_
  unfold fX7_wordFault
  refine s_iconst (v := 0) dX7_wordFault_0 ci_0 ?_
  refine s_istore_n (lv' := [(1, .int (0 : Int32)), (0, rf G 0)]) dX7_wordFault_1 rfl rfl rfl ?_
  exact s_sub [0, 1] rfl (tX7_wordFault_L2 l G FU (0 : Int32) M)
theorem dX7_mayHaveSaid_0 : decode cX7_mayHaveSaid 0 = .ok (.aload_n 0, 1) := by decide +kernel
theorem dX7_mayHaveSaid_1 : decode cX7_mayHaveSaid 1 = .ok (.getfield 30, 3) := by decide +kernel
theorem dX7_mayHaveSaid_4 : decode cX7_mayHaveSaid 4 = .ok (.iload_n 1, 1) := by decide +kernel
theorem dX7_mayHaveSaid_5 : decode cX7_mayHaveSaid 5 = .ok (.aaload, 1) := by decide +kernel
theorem dX7_mayHaveSaid_6 : decode cX7_mayHaveSaid 6 = .ok (.getfield 166, 3) := by decide +kernel
theorem dX7_mayHaveSaid_9 : decode cX7_mayHaveSaid 9 = .ok (.istore_n 3, 1) := by decide +kernel
theorem dX7_mayHaveSaid_10 : decode cX7_mayHaveSaid 10 = .ok (.aload_n 2, 1) := by decide +kernel
theorem dX7_mayHaveSaid_11 : decode cX7_mayHaveSaid 11 = .ok (.getfield 166, 3) := by decide +kernel
theorem dX7_mayHaveSaid_14 : decode cX7_mayHaveSaid 14 = .ok (.iload_n 3, 1) := by decide +kernel
theorem dX7_mayHaveSaid_15 : decode cX7_mayHaveSaid 15 = .ok (.if_icmp .eq 5, 3) := by decide +kernel
theorem dX7_mayHaveSaid_18 : decode cX7_mayHaveSaid 18 = .ok (.iconst 0, 1) := by decide +kernel
theorem dX7_mayHaveSaid_19 : decode cX7_mayHaveSaid 19 = .ok (.ireturn, 1) := by decide +kernel
theorem dX7_mayHaveSaid_20 : decode cX7_mayHaveSaid 20 = .ok (.iconst 0, 1) := by decide +kernel
theorem dX7_mayHaveSaid_21 : decode cX7_mayHaveSaid 21 = .ok (.istore 4, 2) := by decide +kernel
theorem dX7_mayHaveSaid_23 : decode cX7_mayHaveSaid 23 = .ok (.iload 4, 2) := by decide +kernel
theorem dX7_mayHaveSaid_25 : decode cX7_mayHaveSaid 25 = .ok (.iload_n 3, 1) := by decide +kernel
theorem dX7_mayHaveSaid_26 : decode cX7_mayHaveSaid 26 = .ok (.if_icmp .ge 52, 3) := by decide +kernel
theorem dX7_mayHaveSaid_29 : decode cX7_mayHaveSaid 29 = .ok (.aload_n 0, 1) := by decide +kernel
theorem dX7_mayHaveSaid_30 : decode cX7_mayHaveSaid 30 = .ok (.iload_n 1, 1) := by decide +kernel
theorem dX7_mayHaveSaid_31 : decode cX7_mayHaveSaid 31 = .ok (.iload 4, 2) := by decide +kernel
theorem dX7_mayHaveSaid_33 : decode cX7_mayHaveSaid 33 = .ok (.invokevirtual 169, 3) := by decide +kernel
theorem dX7_mayHaveSaid_36 : decode cX7_mayHaveSaid 36 = .ok (.astore 5, 2) := by decide +kernel
theorem dX7_mayHaveSaid_38 : decode cX7_mayHaveSaid 38 = .ok (.aload 5, 2) := by decide +kernel
theorem dX7_mayHaveSaid_40 : decode cX7_mayHaveSaid 40 = .ok (.getfield 115, 3) := by decide +kernel
theorem dX7_mayHaveSaid_43 : decode cX7_mayHaveSaid 43 = .ok (.aload_n 2, 1) := by decide +kernel
theorem dX7_mayHaveSaid_44 : decode cX7_mayHaveSaid 44 = .ok (.iload 4, 2) := by decide +kernel
theorem dX7_mayHaveSaid_46 : decode cX7_mayHaveSaid 46 = .ok (.invokevirtual 162, 3) := by decide +kernel
theorem dX7_mayHaveSaid_49 : decode cX7_mayHaveSaid 49 = .ok (.invokestatic 191, 3) := by decide +kernel
theorem dX7_mayHaveSaid_52 : decode cX7_mayHaveSaid 52 = .ok (.if_icmp .eq 20, 3) := by decide +kernel
theorem dX7_mayHaveSaid_55 : decode cX7_mayHaveSaid 55 = .ok (.aload_n 0, 1) := by decide +kernel
theorem dX7_mayHaveSaid_56 : decode cX7_mayHaveSaid 56 = .ok (.aload 5, 2) := by decide +kernel
theorem dX7_mayHaveSaid_58 : decode cX7_mayHaveSaid 58 = .ok (.aload_n 0, 1) := by decide +kernel
theorem dX7_mayHaveSaid_59 : decode cX7_mayHaveSaid 59 = .ok (.getfield 34, 3) := by decide +kernel
theorem dX7_mayHaveSaid_62 : decode cX7_mayHaveSaid 62 = .ok (.iload_n 1, 1) := by decide +kernel
theorem dX7_mayHaveSaid_63 : decode cX7_mayHaveSaid 63 = .ok (.iaload, 1) := by decide +kernel
theorem dX7_mayHaveSaid_64 : decode cX7_mayHaveSaid 64 = .ok (.invokevirtual 138, 3) := by decide +kernel
theorem dX7_mayHaveSaid_67 : decode cX7_mayHaveSaid 67 = .ok (.ifCond .le 5, 3) := by decide +kernel
theorem dX7_mayHaveSaid_70 : decode cX7_mayHaveSaid 70 = .ok (.iconst 0, 1) := by decide +kernel
theorem dX7_mayHaveSaid_71 : decode cX7_mayHaveSaid 71 = .ok (.ireturn, 1) := by decide +kernel
theorem dX7_mayHaveSaid_72 : decode cX7_mayHaveSaid 72 = .ok (.iinc 4 1, 3) := by decide +kernel
theorem dX7_mayHaveSaid_75 : decode cX7_mayHaveSaid 75 = .ok (.goto (-52), 3) := by decide +kernel
theorem dX7_mayHaveSaid_78 : decode cX7_mayHaveSaid 78 = .ok (.iconst 1, 1) := by decide +kernel
theorem dX7_mayHaveSaid_79 : decode cX7_mayHaveSaid 79 = .ok (.ireturn, 1) := by decide +kernel
def fX7_mayHaveSaid_B78 (M : Mm) : Option (Bool × Mm) :=
  some (true, M)
theorem tX7_mayHaveSaid_B78 (l : Launch) (G : Gx) (M : Mm) : Sim cQz l layC G 4 cX7_mayHaveSaid RX7 6 (some .boolean) 78 [] [] M (fX7_mayHaveSaid_B78 M) := by
  unfold fX7_mayHaveSaid_B78
  refine s_iconst (v := 1) dX7_mayHaveSaid_78 ci_1 ?_
  exact s_zret1 rfl dX7_mayHaveSaid_79
def fX7_mayHaveSaid_B72 (q23 : Int32 → Mm → Option (Bool × Mm)) (v4 : Int32) (v3 : Int32) (v1 : Int32) (v2 : Nat) (M : Mm) : Option (Bool × Mm) :=
  q23 (v4 + 1) M
theorem tX7_mayHaveSaid_B72 (l : Launch) (G : Gx) (v4 : Int32) (v3 : Int32) (v1 : Int32) (v2 : Nat) (q23 : Int32 → Mm → Option (Bool × Mm)) (hq23 : ∀ (v4 : Int32) (M : Mm), Sim cQz l layC G 4 cX7_mayHaveSaid RX7 6 (some .boolean) 23 [(4, .int v4), (3, .int v3), (0, rf G 0), (1, .int v1), (2, rf G v2)] [] M (q23 v4 M)) (M : Mm) : Sim cQz l layC G 4 cX7_mayHaveSaid RX7 6 (some .boolean) 72 [(4, .int v4), (3, .int v3), (0, rf G 0), (1, .int v1), (2, rf G v2)] [] M (fX7_mayHaveSaid_B72 q23 v4 v3 v1 v2 M) := by
  unfold fX7_mayHaveSaid_B72
  refine s_iinc (k := 0) (lv' := [(4, .int (v4 + 1)), (3, .int v3), (0, rf G 0), (1, .int v1), (2, rf G v2)]) dX7_mayHaveSaid_72 rfl ci_1 rfl rfl ?_
  refine s_goto (tgt := 23) dX7_mayHaveSaid_75 (by decide) ?_
  exact s_sub [0, 1, 2, 3, 4] rfl (hq23 (v4 + 1) M)
def fX7_mayHaveSaid_B70 (M : Mm) : Option (Bool × Mm) :=
  some (false, M)
theorem tX7_mayHaveSaid_B70 (l : Launch) (G : Gx) (M : Mm) : Sim cQz l layC G 4 cX7_mayHaveSaid RX7 6 (some .boolean) 70 [] [] M (fX7_mayHaveSaid_B70 M) := by
  unfold fX7_mayHaveSaid_B70
  refine s_iconst (v := 0) dX7_mayHaveSaid_70 ci_0 ?_
  exact s_zret0 rfl dX7_mayHaveSaid_71
def fX7_mayHaveSaid_L23b (v3 : Int32) (v1 : Int32) (v2 : Nat) (q23 : Int32 → Mm → Option (Bool × Mm)) (v4 : Int32) (M : Mm) : Option (Bool × Mm) :=
  if v3 ≤ v4 then (fX7_mayHaveSaid_B78 M)
  else bd (fX7_letterIn v1 v4 M) fun r5 M6 =>
  gd (isC layC r5 3) <|
  gd (isC layC v2 5) <|
  bd (fX5_at v2 v4 M6) fun r9 M10 =>
  bd (fX9_glyphOf r9 M10) fun r11 M12 =>
  if (M6 r5 2) = r11 then (fX7_mayHaveSaid_B72 q23 v4 v3 v1 v2 M12)
  else gd (inb v1 4) <|
  bd (fX7_seesOf r5 (M12 2 (ix v1)) M12) fun r14 M15 =>
  if r14 ≤ 0 then (fX7_mayHaveSaid_B72 q23 v4 v3 v1 v2 M15)
  else fX7_mayHaveSaid_B70 M15
def fX7_mayHaveSaid_L23 (v3 : Int32) (v1 : Int32) (v2 : Nat) : Nat → Int32 → Mm → Option (Bool × Mm)
  | 0 => fun _ _ => none
  | n + 1 => fX7_mayHaveSaid_L23b v3 v1 v2 (fX7_mayHaveSaid_L23 v3 v1 v2 n)
theorem tX7_mayHaveSaid_L23b (l : Launch) (G : Gx) (v3 : Int32) (v1 : Int32) (v2 : Nat) (q23 : Int32 → Mm → Option (Bool × Mm)) (hq23 : ∀ (v4 : Int32) (M : Mm), Sim cQz l layC G 4 cX7_mayHaveSaid RX7 6 (some .boolean) 23 [(4, .int v4), (3, .int v3), (0, rf G 0), (1, .int v1), (2, rf G v2)] [] M (q23 v4 M)) (v4 : Int32) (M : Mm) : Sim cQz l layC G 4 cX7_mayHaveSaid RX7 6 (some .boolean) 23 [(4, .int v4), (3, .int v3), (0, rf G 0), (1, .int v1), (2, rf G v2)] [] M (fX7_mayHaveSaid_L23b v3 v1 v2 q23 v4 M) := by
  unfold fX7_mayHaveSaid_L23b
  refine s_iload 0 dX7_mayHaveSaid_23 rfl ?_
  refine s_iload_n 1 dX7_mayHaveSaid_25 rfl rfl ?_
  refine s_icmpge (tgt := 78) dX7_mayHaveSaid_26 (by decide) ?_ ?_
  · exact s_sub [] rfl (tX7_mayHaveSaid_B78 l G M)
  · refine s_aload_n 2 dX7_mayHaveSaid_29 rfl rfl ?_
    refine s_iload_n 3 dX7_mayHaveSaid_30 rfl rfl ?_
    refine s_iload 0 dX7_mayHaveSaid_31 rfl ?_
    refine s_call_r (s_runV (ci := 7) (rest := []) rfl rfl (mX7_letterIn l G v1 v4 M) ok_X7_letterIn k_X7_169 rfl rfl rfl rfl dX7_mayHaveSaid_33) fun r5 M6 => ?_
    refine s_astore (lv' := [(5, rf G r5), (4, .int v4), (3, .int v3), (0, rf G 0), (1, .int v1), (2, rf G v2)]) dX7_mayHaveSaid_36 rfl rfl ?_
    refine s_aload 0 dX7_mayHaveSaid_38 rfl ?_
    refine s_gd fun h7 => ?_
    refine g_X7_115 h7 dX7_mayHaveSaid_40 ?_
    refine s_aload_n 5 dX7_mayHaveSaid_43 rfl rfl ?_
    refine s_iload 1 dX7_mayHaveSaid_44 rfl ?_
    refine s_gd fun h8 => ?_
    refine s_call_i (s_runV (ci := 5) (rest := [.int (M6 r5 2)]) h8 rfl (mX5_at l G v2 v4 M6) ok_X5_at k_X7_162 rfl rfl rfl rfl dX7_mayHaveSaid_46) fun r9 M10 => ?_
    refine s_call_i (s_runSN (rest := [.int (M6 r5 2)]) (mX9_glyphOf l G r9 M10) ok_X9_glyphOf k_X7_191 rfl rfl rfl rfl dX7_mayHaveSaid_49) fun r11 M12 => ?_
    refine s_icmpeq (tgt := 72) dX7_mayHaveSaid_52 (by decide) ?_ ?_
    · exact s_sub [1, 2, 3, 4, 5] rfl (tX7_mayHaveSaid_B72 l G v4 v3 v1 v2 q23 hq23 M12)
    · refine s_aload_n 3 dX7_mayHaveSaid_55 rfl rfl ?_
      refine s_aload 0 dX7_mayHaveSaid_56 rfl ?_
      refine s_aload_n 3 dX7_mayHaveSaid_58 rfl rfl ?_
      refine g_X7_34 (q := 2) rfl rfl dX7_mayHaveSaid_59 ?_
      refine s_iload_n 4 dX7_mayHaveSaid_62 rfl rfl ?_
      refine s_gd fun h13 => ?_
      refine s_iald (n := 4) rfl h13 dX7_mayHaveSaid_63 ?_
      refine s_call_i (s_runV (ci := 7) (rest := []) rfl rfl (mX7_seesOf l G r5 (M12 2 (ix v1)) M12) ok_X7_seesOf k_X7_138 rfl rfl rfl rfl dX7_mayHaveSaid_64) fun r14 M15 => ?_
      refine s_ifle (tgt := 72) dX7_mayHaveSaid_67 (by decide) ?_ ?_
      · exact s_sub [1, 2, 3, 4, 5] rfl (tX7_mayHaveSaid_B72 l G v4 v3 v1 v2 q23 hq23 M15)
      · exact s_sub [] rfl (tX7_mayHaveSaid_B70 l G M15)
theorem tX7_mayHaveSaid_L23 (l : Launch) (G : Gx) (v3 : Int32) (v1 : Int32) (v2 : Nat) : ∀ (n : Nat) (v4 : Int32) (M : Mm), Sim cQz l layC G 4 cX7_mayHaveSaid RX7 6 (some .boolean) 23 [(4, .int v4), (3, .int v3), (0, rf G 0), (1, .int v1), (2, rf G v2)] [] M (fX7_mayHaveSaid_L23 v3 v1 v2 n v4 M)
  | 0, _, _ => s_none
  | n + 1, v4, M => tX7_mayHaveSaid_L23b l G v3 v1 v2 _ (tX7_mayHaveSaid_L23 l G v3 v1 v2 n) v4 M
def fX7_mayHaveSaid (a1 : Int32) (a2 : Nat) (M : Mm) : Option (Bool × Mm) :=
  gd (inb a1 4) <|
  gd (isC layC (29 + 2 * ix a1) 5) <|
  lt (M (29 + 2 * ix a1) 1) fun x3 =>
  gd (isC layC a2 5) <|
  if (M a2 1) = x3 then (fX7_mayHaveSaid_L23 x3 a1 a2 FU (0 : Int32) M)
  else some (false, M)
theorem mX7_mayHaveSaid (l : Launch) (G : Gx) (a1 : Int32) (a2 : Nat) (M : Mm) : Mt cQz l layC G 4 yX7_mayHaveSaid cX7_mayHaveSaid 6 (some .boolean) [rf G 0, .int a1, rf G a2] M (fX7_mayHaveSaid a1 a2 M) := by
  refine Mt.of2 (own := RX7) (lv := [(0, rf G 0), (1, .int a1), (2, rf G a2)]) rfl (by decide +kernel) rfl rfl ?_
  unfold fX7_mayHaveSaid
  refine s_aload_n 0 dX7_mayHaveSaid_0 rfl rfl ?_
  refine g_X7_30 (q := 28) rfl rfl dX7_mayHaveSaid_1 ?_
  refine s_iload_n 1 dX7_mayHaveSaid_4 rfl rfl ?_
  refine s_gd fun h1 => ?_
  refine s_aald (t := 2) (bs := 29) (sd := 2) (n := 4) rfl rfl h1 dX7_mayHaveSaid_5 ?_
  refine s_gd fun h2 => ?_
  refine g_X7_166 h2 dX7_mayHaveSaid_6 ?_
  refine s_leti fun x3 => ?_
  refine s_istore_n (lv' := [(3, .int x3), (0, rf G 0), (1, .int a1), (2, rf G a2)]) dX7_mayHaveSaid_9 rfl rfl rfl ?_
  refine s_aload_n 3 dX7_mayHaveSaid_10 rfl rfl ?_
  refine s_gd fun h4 => ?_
  refine g_X7_166 h4 dX7_mayHaveSaid_11 ?_
  refine s_iload_n 0 dX7_mayHaveSaid_14 rfl rfl ?_
  refine s_icmpeq (tgt := 20) dX7_mayHaveSaid_15 (by decide) ?_ ?_
  · refine s_iconst (v := 0) dX7_mayHaveSaid_20 ci_0 ?_
    refine s_istore (lv' := [(4, .int (0 : Int32)), (3, .int x3), (0, rf G 0), (1, .int a1), (2, rf G a2)]) dX7_mayHaveSaid_21 rfl rfl ?_
    exact s_sub [0, 1, 2, 3, 4] rfl (tX7_mayHaveSaid_L23 l G x3 a1 a2 FU (0 : Int32) M)
  · refine s_iconst (v := 0) dX7_mayHaveSaid_18 ci_0 ?_
    exact s_zret0 rfl dX7_mayHaveSaid_19
theorem dX7_caseOf_0 : decode cX7_caseOf 0 = .ok (.iconst 0, 1) := by decide +kernel
theorem dX7_caseOf_1 : decode cX7_caseOf 1 = .ok (.istore_n 2, 1) := by decide +kernel
theorem dX7_caseOf_2 : decode cX7_caseOf 2 = .ok (.iconst 0, 1) := by decide +kernel
theorem dX7_caseOf_3 : decode cX7_caseOf 3 = .ok (.istore_n 3, 1) := by decide +kernel
theorem dX7_caseOf_4 : decode cX7_caseOf 4 = .ok (.iload_n 3, 1) := by decide +kernel
theorem dX7_caseOf_5 : decode cX7_caseOf 5 = .ok (.aload_n 0, 1) := by decide +kernel
theorem dX7_caseOf_6 : decode cX7_caseOf 6 = .ok (.getfield 73, 3) := by decide +kernel
theorem dX7_caseOf_9 : decode cX7_caseOf 9 = .ok (.if_icmp .ge 45, 3) := by decide +kernel
theorem dX7_caseOf_12 : decode cX7_caseOf 12 = .ok (.aload_n 0, 1) := by decide +kernel
theorem dX7_caseOf_13 : decode cX7_caseOf 13 = .ok (.getfield 24, 3) := by decide +kernel
theorem dX7_caseOf_16 : decode cX7_caseOf 16 = .ok (.iload_n 3, 1) := by decide +kernel
theorem dX7_caseOf_17 : decode cX7_caseOf 17 = .ok (.aaload, 1) := by decide +kernel
theorem dX7_caseOf_18 : decode cX7_caseOf 18 = .ok (.astore 4, 2) := by decide +kernel
theorem dX7_caseOf_20 : decode cX7_caseOf 20 = .ok (.aload 4, 2) := by decide +kernel
theorem dX7_caseOf_22 : decode cX7_caseOf 22 = .ok (.getfield 115, 3) := by decide +kernel
theorem dX7_caseOf_25 : decode cX7_caseOf 25 = .ok (.iload_n 1, 1) := by decide +kernel
theorem dX7_caseOf_26 : decode cX7_caseOf 26 = .ok (.if_icmp .ne 22, 3) := by decide +kernel
theorem dX7_caseOf_29 : decode cX7_caseOf 29 = .ok (.aload 4, 2) := by decide +kernel
theorem dX7_caseOf_31 : decode cX7_caseOf 31 = .ok (.getfield 124, 3) := by decide +kernel
theorem dX7_caseOf_34 : decode cX7_caseOf 34 = .ok (.ifCond .ge 14, 3) := by decide +kernel
theorem dX7_caseOf_37 : decode cX7_caseOf 37 = .ok (.aload 4, 2) := by decide +kernel
theorem dX7_caseOf_39 : decode cX7_caseOf 39 = .ok (.invokevirtual 134, 3) := by decide +kernel
theorem dX7_caseOf_42 : decode cX7_caseOf 42 = .ok (.ifCond .le 6, 3) := by decide +kernel
theorem dX7_caseOf_45 : decode cX7_caseOf 45 = .ok (.iinc 2 1, 3) := by decide +kernel
theorem dX7_caseOf_48 : decode cX7_caseOf 48 = .ok (.iinc 3 1, 3) := by decide +kernel
theorem dX7_caseOf_51 : decode cX7_caseOf 51 = .ok (.goto (-47), 3) := by decide +kernel
theorem dX7_caseOf_54 : decode cX7_caseOf 54 = .ok (.iload_n 2, 1) := by decide +kernel
theorem dX7_caseOf_55 : decode cX7_caseOf 55 = .ok (.ireturn, 1) := by decide +kernel
def fX7_caseOf_B54 (v2 : Int32) (M : Mm) : Option (Int32 × Mm) :=
  some (v2, M)
theorem tX7_caseOf_B54 (l : Launch) (G : Gx) (v2 : Int32) (M : Mm) : Sim cQi l layC G 3 cX7_caseOf RX7 5 (some .int) 54 [(2, .int v2)] [] M (fX7_caseOf_B54 v2 M) := by
  unfold fX7_caseOf_B54
  refine s_iload_n 0 dX7_caseOf_54 rfl rfl ?_
  exact s_iret rfl dX7_caseOf_55
def fX7_caseOf_B48 (q4 : Int32 → Int32 → Mm → Option (Int32 × Mm)) (v3 : Int32) (v2 : Int32) (v1 : Int32) (M : Mm) : Option (Int32 × Mm) :=
  q4 (v3 + 1) v2 M
theorem tX7_caseOf_B48 (l : Launch) (G : Gx) (v3 : Int32) (v2 : Int32) (v1 : Int32) (q4 : Int32 → Int32 → Mm → Option (Int32 × Mm)) (hq4 : ∀ (v3 : Int32) (v2 : Int32) (M : Mm), Sim cQi l layC G 3 cX7_caseOf RX7 5 (some .int) 4 [(3, .int v3), (2, .int v2), (0, rf G 0), (1, .int v1)] [] M (q4 v3 v2 M)) (M : Mm) : Sim cQi l layC G 3 cX7_caseOf RX7 5 (some .int) 48 [(3, .int v3), (2, .int v2), (0, rf G 0), (1, .int v1)] [] M (fX7_caseOf_B48 q4 v3 v2 v1 M) := by
  unfold fX7_caseOf_B48
  refine s_iinc (k := 0) (lv' := [(3, .int (v3 + 1)), (2, .int v2), (0, rf G 0), (1, .int v1)]) dX7_caseOf_48 rfl ci_1 rfl rfl ?_
  refine s_goto (tgt := 4) dX7_caseOf_51 (by decide) ?_
  exact s_sub [0, 1, 2, 3] rfl (hq4 (v3 + 1) v2 M)
def fX7_caseOf_L4b (v1 : Int32) (q4 : Int32 → Int32 → Mm → Option (Int32 × Mm)) (v3 : Int32) (v2 : Int32) (M : Mm) : Option (Int32 × Mm) :=
  if (M 0 6) ≤ v3 then (fX7_caseOf_B54 v2 M)
  else gd (inb v3 24) <|
  gd (isC layC (4 + 1 * ix v3) 3) <|
  if (M (4 + 1 * ix v3) 2) = v1 then (if 0 ≤ (M (4 + 1 * ix v3) 5) then (fX7_caseOf_B48 q4 v3 v2 v1 M)
  else bd (fX3_reads (4 + 1 * ix v3) M) fun r3 M4 =>
  if r3 ≤ 0 then (fX7_caseOf_B48 q4 v3 v2 v1 M4)
  else fX7_caseOf_B48 q4 v3 (v2 + 1) v1 M4)
  else fX7_caseOf_B48 q4 v3 v2 v1 M
def fX7_caseOf_L4 (v1 : Int32) : Nat → Int32 → Int32 → Mm → Option (Int32 × Mm)
  | 0 => fun _ _ _ => none
  | n + 1 => fX7_caseOf_L4b v1 (fX7_caseOf_L4 v1 n)
theorem tX7_caseOf_L4b (l : Launch) (G : Gx) (v1 : Int32) (q4 : Int32 → Int32 → Mm → Option (Int32 × Mm)) (hq4 : ∀ (v3 : Int32) (v2 : Int32) (M : Mm), Sim cQi l layC G 3 cX7_caseOf RX7 5 (some .int) 4 [(3, .int v3), (2, .int v2), (0, rf G 0), (1, .int v1)] [] M (q4 v3 v2 M)) (v3 : Int32) (v2 : Int32) (M : Mm) : Sim cQi l layC G 3 cX7_caseOf RX7 5 (some .int) 4 [(3, .int v3), (2, .int v2), (0, rf G 0), (1, .int v1)] [] M (fX7_caseOf_L4b v1 q4 v3 v2 M) := by
  unfold fX7_caseOf_L4b
  refine s_iload_n 0 dX7_caseOf_4 rfl rfl ?_
  refine s_aload_n 2 dX7_caseOf_5 rfl rfl ?_
  refine g_X7_73 rfl dX7_caseOf_6 ?_
  refine s_icmpge (tgt := 54) dX7_caseOf_9 (by decide) ?_ ?_
  · exact s_sub [1] rfl (tX7_caseOf_B54 l G v2 M)
  · refine s_aload_n 2 dX7_caseOf_12 rfl rfl ?_
    refine g_X7_24 (q := 3) rfl rfl dX7_caseOf_13 ?_
    refine s_iload_n 0 dX7_caseOf_16 rfl rfl ?_
    refine s_gd fun h1 => ?_
    refine s_aald (t := 1) (bs := 4) (sd := 1) (n := 24) rfl rfl h1 dX7_caseOf_17 ?_
    refine s_astore (lv' := [(4, rf G (4 + 1 * ix v3)), (3, .int v3), (2, .int v2), (0, rf G 0), (1, .int v1)]) dX7_caseOf_18 rfl rfl ?_
    refine s_aload 0 dX7_caseOf_20 rfl ?_
    refine s_gd fun h2 => ?_
    refine g_X7_115 h2 dX7_caseOf_22 ?_
    refine s_iload_n 4 dX7_caseOf_25 rfl rfl ?_
    refine s_icmpne (tgt := 48) dX7_caseOf_26 (by decide) ?_ ?_
    · exact s_sub [1, 2, 3, 4] rfl (tX7_caseOf_B48 l G v3 v2 v1 q4 hq4 M)
    · refine s_aload 0 dX7_caseOf_29 rfl ?_
      refine g_X7_124 h2 dX7_caseOf_31 ?_
      refine s_ifge (tgt := 48) dX7_caseOf_34 (by decide) ?_ ?_
      · exact s_sub [1, 2, 3, 4] rfl (tX7_caseOf_B48 l G v3 v2 v1 q4 hq4 M)
      · refine s_aload 0 dX7_caseOf_37 rfl ?_
        refine s_call_i (s_runV (ci := 3) (rest := []) h2 rfl (mX3_reads l G (4 + 1 * ix v3) M) ok_X3_reads k_X7_134 rfl rfl rfl rfl dX7_caseOf_39) fun r3 M4 => ?_
        refine s_ifle (tgt := 48) dX7_caseOf_42 (by decide) ?_ ?_
        · exact s_sub [1, 2, 3, 4] rfl (tX7_caseOf_B48 l G v3 v2 v1 q4 hq4 M4)
        · refine s_iinc (k := 2) (lv' := [(2, .int (v2 + 1)), (4, rf G (4 + 1 * ix v3)), (3, .int v3), (0, rf G 0), (1, .int v1)]) dX7_caseOf_45 rfl ci_1 rfl rfl ?_
          exact s_sub [2, 0, 3, 4] rfl (tX7_caseOf_B48 l G v3 (v2 + 1) v1 q4 hq4 M4)
theorem tX7_caseOf_L4 (l : Launch) (G : Gx) (v1 : Int32) : ∀ (n : Nat) (v3 : Int32) (v2 : Int32) (M : Mm), Sim cQi l layC G 3 cX7_caseOf RX7 5 (some .int) 4 [(3, .int v3), (2, .int v2), (0, rf G 0), (1, .int v1)] [] M (fX7_caseOf_L4 v1 n v3 v2 M)
  | 0, _, _, _ => s_none
  | n + 1, v3, v2, M => tX7_caseOf_L4b l G v1 _ (tX7_caseOf_L4 l G v1 n) v3 v2 M
def fX7_caseOf (a1 : Int32) (M : Mm) : Option (Int32 × Mm) :=
  fX7_caseOf_L4 a1 FU (0 : Int32) (0 : Int32) M
theorem mX7_caseOf (l : Launch) (G : Gx) (a1 : Int32) (M : Mm) : Mt cQi l layC G 3 yX7_caseOf cX7_caseOf 5 (some .int) [rf G 0, .int a1] M (fX7_caseOf a1 M) := by
  refine Mt.of2 (own := RX7) (lv := [(0, rf G 0), (1, .int a1)]) rfl (by decide +kernel) rfl rfl ?_
  unfold fX7_caseOf
  refine s_iconst (v := 0) dX7_caseOf_0 ci_0 ?_
  refine s_istore_n (lv' := [(2, .int (0 : Int32)), (0, rf G 0), (1, .int a1)]) dX7_caseOf_1 rfl rfl rfl ?_
  refine s_iconst (v := 0) dX7_caseOf_2 ci_0 ?_
  refine s_istore_n (lv' := [(3, .int (0 : Int32)), (2, .int (0 : Int32)), (0, rf G 0), (1, .int a1)]) dX7_caseOf_3 rfl rfl rfl ?_
  exact s_sub [0, 1, 2, 3] rfl (tX7_caseOf_L4 l G a1 FU (0 : Int32) (0 : Int32) M)
theorem dX7_timesUpTo_0 : decode cX7_timesUpTo 0 = .ok (.iconst 0, 1) := by decide +kernel
theorem dX7_timesUpTo_1 : decode cX7_timesUpTo 1 = .ok (.istore_n 2, 1) := by decide +kernel
theorem dX7_timesUpTo_2 : decode cX7_timesUpTo 2 = .ok (.iconst 0, 1) := by decide +kernel
theorem dX7_timesUpTo_3 : decode cX7_timesUpTo 3 = .ok (.istore_n 3, 1) := by decide +kernel
theorem dX7_timesUpTo_4 : decode cX7_timesUpTo 4 = .ok (.iload_n 3, 1) := by decide +kernel
theorem dX7_timesUpTo_5 : decode cX7_timesUpTo 5 = .ok (.iload_n 1, 1) := by decide +kernel
theorem dX7_timesUpTo_6 : decode cX7_timesUpTo 6 = .ok (.if_icmp .gt 36, 3) := by decide +kernel
theorem dX7_timesUpTo_9 : decode cX7_timesUpTo 9 = .ok (.iload_n 2, 1) := by decide +kernel
theorem dX7_timesUpTo_10 : decode cX7_timesUpTo 10 = .ok (.aload_n 0, 1) := by decide +kernel
theorem dX7_timesUpTo_11 : decode cX7_timesUpTo 11 = .ok (.getfield 53, 3) := by decide +kernel
theorem dX7_timesUpTo_14 : decode cX7_timesUpTo 14 = .ok (.iload_n 3, 1) := by decide +kernel
theorem dX7_timesUpTo_15 : decode cX7_timesUpTo 15 = .ok (.invokevirtual 162, 3) := by decide +kernel
theorem dX7_timesUpTo_18 : decode cX7_timesUpTo 18 = .ok (.aload_n 0, 1) := by decide +kernel
theorem dX7_timesUpTo_19 : decode cX7_timesUpTo 19 = .ok (.getfield 53, 3) := by decide +kernel
theorem dX7_timesUpTo_22 : decode cX7_timesUpTo 22 = .ok (.iload_n 1, 1) := by decide +kernel
theorem dX7_timesUpTo_23 : decode cX7_timesUpTo 23 = .ok (.invokevirtual 162, 3) := by decide +kernel
theorem dX7_timesUpTo_26 : decode cX7_timesUpTo 26 = .ok (.if_icmp .ne 7, 3) := by decide +kernel
theorem dX7_timesUpTo_29 : decode cX7_timesUpTo 29 = .ok (.iconst 1, 1) := by decide +kernel
theorem dX7_timesUpTo_30 : decode cX7_timesUpTo 30 = .ok (.goto 4, 3) := by decide +kernel
theorem dX7_timesUpTo_33 : decode cX7_timesUpTo 33 = .ok (.iconst 0, 1) := by decide +kernel
theorem dX7_timesUpTo_34 : decode cX7_timesUpTo 34 = .ok (.iadd, 1) := by decide +kernel
theorem dX7_timesUpTo_35 : decode cX7_timesUpTo 35 = .ok (.istore_n 2, 1) := by decide +kernel
theorem dX7_timesUpTo_36 : decode cX7_timesUpTo 36 = .ok (.iinc 3 1, 3) := by decide +kernel
theorem dX7_timesUpTo_39 : decode cX7_timesUpTo 39 = .ok (.goto (-35), 3) := by decide +kernel
theorem dX7_timesUpTo_42 : decode cX7_timesUpTo 42 = .ok (.iload_n 2, 1) := by decide +kernel
theorem dX7_timesUpTo_43 : decode cX7_timesUpTo 43 = .ok (.ireturn, 1) := by decide +kernel
def fX7_timesUpTo_B42 (v2 : Int32) (M : Mm) : Option (Int32 × Mm) :=
  some (v2, M)
theorem tX7_timesUpTo_B42 (l : Launch) (G : Gx) (v2 : Int32) (M : Mm) : Sim cQi l layC G 3 cX7_timesUpTo RX7 4 (some .int) 42 [(2, .int v2)] [] M (fX7_timesUpTo_B42 v2 M) := by
  unfold fX7_timesUpTo_B42
  refine s_iload_n 0 dX7_timesUpTo_42 rfl rfl ?_
  exact s_iret rfl dX7_timesUpTo_43
def fX7_timesUpTo_B34 (q4 : Int32 → Int32 → Mm → Option (Int32 × Mm)) (v3 : Int32) (v1 : Int32) (w0 : Int32) (w1 : Int32) (M : Mm) : Option (Int32 × Mm) :=
  lt (w1 + w0) fun x5 =>
  q4 (v3 + 1) x5 M
theorem tX7_timesUpTo_B34 (l : Launch) (G : Gx) (v3 : Int32) (v1 : Int32) (w0 : Int32) (w1 : Int32) (q4 : Int32 → Int32 → Mm → Option (Int32 × Mm)) (hq4 : ∀ (v3 : Int32) (v2 : Int32) (M : Mm), Sim cQi l layC G 3 cX7_timesUpTo RX7 4 (some .int) 4 [(3, .int v3), (2, .int v2), (0, rf G 0), (1, .int v1)] [] M (q4 v3 v2 M)) (M : Mm) : Sim cQi l layC G 3 cX7_timesUpTo RX7 4 (some .int) 34 [(3, .int v3), (0, rf G 0), (1, .int v1)] [.int w0, .int w1] M (fX7_timesUpTo_B34 q4 v3 v1 w0 w1 M) := by
  unfold fX7_timesUpTo_B34
  refine s_iadd dX7_timesUpTo_34 ?_
  refine s_leti fun x5 => ?_
  refine s_istore_n (lv' := [(2, .int x5), (3, .int v3), (0, rf G 0), (1, .int v1)]) dX7_timesUpTo_35 rfl rfl rfl ?_
  refine s_iinc (k := 1) (lv' := [(3, .int (v3 + 1)), (2, .int x5), (0, rf G 0), (1, .int v1)]) dX7_timesUpTo_36 rfl ci_1 rfl rfl ?_
  refine s_goto (tgt := 4) dX7_timesUpTo_39 (by decide) ?_
  exact s_sub [0, 1, 2, 3] rfl (hq4 (v3 + 1) x5 M)
def fX7_timesUpTo_L4b (v1 : Int32) (q4 : Int32 → Int32 → Mm → Option (Int32 × Mm)) (v3 : Int32) (v2 : Int32) (M : Mm) : Option (Int32 × Mm) :=
  if v1 < v3 then (fX7_timesUpTo_B42 v2 M)
  else bd (fX5_at 64 v3 M) fun r1 M2 =>
  bd (fX5_at 64 v1 M2) fun r3 M4 =>
  if r1 = r3 then (fX7_timesUpTo_B34 q4 v3 v1 (1 : Int32) v2 M4)
  else fX7_timesUpTo_B34 q4 v3 v1 (0 : Int32) v2 M4
def fX7_timesUpTo_L4 (v1 : Int32) : Nat → Int32 → Int32 → Mm → Option (Int32 × Mm)
  | 0 => fun _ _ _ => none
  | n + 1 => fX7_timesUpTo_L4b v1 (fX7_timesUpTo_L4 v1 n)
theorem tX7_timesUpTo_L4b (l : Launch) (G : Gx) (v1 : Int32) (q4 : Int32 → Int32 → Mm → Option (Int32 × Mm)) (hq4 : ∀ (v3 : Int32) (v2 : Int32) (M : Mm), Sim cQi l layC G 3 cX7_timesUpTo RX7 4 (some .int) 4 [(3, .int v3), (2, .int v2), (0, rf G 0), (1, .int v1)] [] M (q4 v3 v2 M)) (v3 : Int32) (v2 : Int32) (M : Mm) : Sim cQi l layC G 3 cX7_timesUpTo RX7 4 (some .int) 4 [(3, .int v3), (2, .int v2), (0, rf G 0), (1, .int v1)] [] M (fX7_timesUpTo_L4b v1 q4 v3 v2 M) := by
  unfold fX7_timesUpTo_L4b
  refine s_iload_n 0 dX7_timesUpTo_4 rfl rfl ?_
  refine s_iload_n 3 dX7_timesUpTo_5 rfl rfl ?_
  refine s_icmpgt (tgt := 42) dX7_timesUpTo_6 (by decide) ?_ ?_
  · exact s_sub [1] rfl (tX7_timesUpTo_B42 l G v2 M)
  · refine s_iload_n 1 dX7_timesUpTo_9 rfl rfl ?_
    refine s_aload_n 2 dX7_timesUpTo_10 rfl rfl ?_
    refine g_X7_53 (q := 64) rfl rfl dX7_timesUpTo_11 ?_
    refine s_iload_n 0 dX7_timesUpTo_14 rfl rfl ?_
    refine s_call_i (s_runV (ci := 5) (rest := [.int v2]) rfl rfl (mX5_at l G 64 v3 M) ok_X5_at k_X7_162 rfl rfl rfl rfl dX7_timesUpTo_15) fun r1 M2 => ?_
    refine s_aload_n 2 dX7_timesUpTo_18 rfl rfl ?_
    refine g_X7_53 (q := 64) rfl rfl dX7_timesUpTo_19 ?_
    refine s_iload_n 3 dX7_timesUpTo_22 rfl rfl ?_
    refine s_call_i (s_runV (ci := 5) (rest := [.int r1, .int v2]) rfl rfl (mX5_at l G 64 v1 M2) ok_X5_at k_X7_162 rfl rfl rfl rfl dX7_timesUpTo_23) fun r3 M4 => ?_
    refine s_icmpne (tgt := 33) dX7_timesUpTo_26 (by decide) ?_ ?_
    · refine s_iconst (v := 0) dX7_timesUpTo_33 ci_0 ?_
      exact s_sub [0, 2, 3] rfl (tX7_timesUpTo_B34 l G v3 v1 (0 : Int32) v2 q4 hq4 M4)
    · refine s_iconst (v := 1) dX7_timesUpTo_29 ci_1 ?_
      refine s_goto (tgt := 34) dX7_timesUpTo_30 (by decide) ?_
      exact s_sub [0, 2, 3] rfl (tX7_timesUpTo_B34 l G v3 v1 (1 : Int32) v2 q4 hq4 M4)
theorem tX7_timesUpTo_L4 (l : Launch) (G : Gx) (v1 : Int32) : ∀ (n : Nat) (v3 : Int32) (v2 : Int32) (M : Mm), Sim cQi l layC G 3 cX7_timesUpTo RX7 4 (some .int) 4 [(3, .int v3), (2, .int v2), (0, rf G 0), (1, .int v1)] [] M (fX7_timesUpTo_L4 v1 n v3 v2 M)
  | 0, _, _, _ => s_none
  | n + 1, v3, v2, M => tX7_timesUpTo_L4b l G v1 _ (tX7_timesUpTo_L4 l G v1 n) v3 v2 M
def fX7_timesUpTo (a1 : Int32) (M : Mm) : Option (Int32 × Mm) :=
  fX7_timesUpTo_L4 a1 FU (0 : Int32) (0 : Int32) M
theorem mX7_timesUpTo (l : Launch) (G : Gx) (a1 : Int32) (M : Mm) : Mt cQi l layC G 3 yX7_timesUpTo cX7_timesUpTo 4 (some .int) [rf G 0, .int a1] M (fX7_timesUpTo a1 M) := by
  refine Mt.of2 (own := RX7) (lv := [(0, rf G 0), (1, .int a1)]) rfl (by decide +kernel) rfl rfl ?_
  unfold fX7_timesUpTo
  refine s_iconst (v := 0) dX7_timesUpTo_0 ci_0 ?_
  refine s_istore_n (lv' := [(2, .int (0 : Int32)), (0, rf G 0), (1, .int a1)]) dX7_timesUpTo_1 rfl rfl rfl ?_
  refine s_iconst (v := 0) dX7_timesUpTo_2 ci_0 ?_
  refine s_istore_n (lv' := [(3, .int (0 : Int32)), (2, .int (0 : Int32)), (0, rf G 0), (1, .int a1)]) dX7_timesUpTo_3 rfl rfl rfl ?_
  exact s_sub [0, 1, 2, 3] rfl (tX7_timesUpTo_L4 l G a1 FU (0 : Int32) (0 : Int32) M)
theorem dX7_placeNotSet_0 : decode cX7_placeNotSet 0 = .ok (.iconst 0, 1) := by decide +kernel
theorem dX7_placeNotSet_1 : decode cX7_placeNotSet 1 = .ok (.istore_n 1, 1) := by decide +kernel
theorem dX7_placeNotSet_2 : decode cX7_placeNotSet 2 = .ok (.iload_n 1, 1) := by decide +kernel
theorem dX7_placeNotSet_3 : decode cX7_placeNotSet 3 = .ok (.aload_n 0, 1) := by decide +kernel
theorem dX7_placeNotSet_4 : decode cX7_placeNotSet 4 = .ok (.getfield 53, 3) := by decide +kernel
theorem dX7_placeNotSet_7 : decode cX7_placeNotSet 7 = .ok (.getfield 166, 3) := by decide +kernel
theorem dX7_placeNotSet_10 : decode cX7_placeNotSet 10 = .ok (.if_icmp .ge 46, 3) := by decide +kernel
theorem dX7_placeNotSet_13 : decode cX7_placeNotSet 13 = .ok (.aload_n 0, 1) := by decide +kernel
theorem dX7_placeNotSet_14 : decode cX7_placeNotSet 14 = .ok (.getfield 53, 3) := by decide +kernel
theorem dX7_placeNotSet_17 : decode cX7_placeNotSet 17 = .ok (.iload_n 1, 1) := by decide +kernel
theorem dX7_placeNotSet_18 : decode cX7_placeNotSet 18 = .ok (.invokevirtual 162, 3) := by decide +kernel
theorem dX7_placeNotSet_21 : decode cX7_placeNotSet 21 = .ok (.invokestatic 188, 3) := by decide +kernel
theorem dX7_placeNotSet_24 : decode cX7_placeNotSet 24 = .ok (.ifCond .eq 32, 3) := by decide +kernel
theorem dX7_placeNotSet_27 : decode cX7_placeNotSet 27 = .ok (.aload_n 0, 1) := by decide +kernel
theorem dX7_placeNotSet_28 : decode cX7_placeNotSet 28 = .ok (.iload_n 1, 1) := by decide +kernel
theorem dX7_placeNotSet_29 : decode cX7_placeNotSet 29 = .ok (.invokevirtual 194, 3) := by decide +kernel
theorem dX7_placeNotSet_32 : decode cX7_placeNotSet 32 = .ok (.aload_n 0, 1) := by decide +kernel
theorem dX7_placeNotSet_33 : decode cX7_placeNotSet 33 = .ok (.aload_n 0, 1) := by decide +kernel
theorem dX7_placeNotSet_34 : decode cX7_placeNotSet 34 = .ok (.getfield 53, 3) := by decide +kernel
theorem dX7_placeNotSet_37 : decode cX7_placeNotSet 37 = .ok (.iload_n 1, 1) := by decide +kernel
theorem dX7_placeNotSet_38 : decode cX7_placeNotSet 38 = .ok (.invokevirtual 162, 3) := by decide +kernel
theorem dX7_placeNotSet_41 : decode cX7_placeNotSet 41 = .ok (.invokestatic 191, 3) := by decide +kernel
theorem dX7_placeNotSet_44 : decode cX7_placeNotSet 44 = .ok (.invokevirtual 197, 3) := by decide +kernel
theorem dX7_placeNotSet_47 : decode cX7_placeNotSet 47 = .ok (.if_icmp .gt 9, 3) := by decide +kernel
theorem dX7_placeNotSet_50 : decode cX7_placeNotSet 50 = .ok (.iinc 1 1, 3) := by decide +kernel
theorem dX7_placeNotSet_53 : decode cX7_placeNotSet 53 = .ok (.goto (-51), 3) := by decide +kernel
theorem dX7_placeNotSet_56 : decode cX7_placeNotSet 56 = .ok (.iload_n 1, 1) := by decide +kernel
theorem dX7_placeNotSet_57 : decode cX7_placeNotSet 57 = .ok (.ireturn, 1) := by decide +kernel
