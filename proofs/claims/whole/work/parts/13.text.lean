theorem dX2_isJoining_0 : decode cX2_isJoining 0 = .ok (.aload_n 0, 1) := by decide +kernel
theorem dX2_isJoining_1 : decode cX2_isJoining 1 = .ok (.getfield 20, 3) := by decide +kernel
theorem dX2_isJoining_4 : decode cX2_isJoining 4 = .ok (.aload_n 0, 1) := by decide +kernel
theorem dX2_isJoining_5 : decode cX2_isJoining 5 = .ok (.getfield 26, 3) := by decide +kernel
theorem dX2_isJoining_8 : decode cX2_isJoining 8 = .ok (.invokevirtual 45, 3) := by decide +kernel
theorem dX2_isJoining_11 : decode cX2_isJoining 11 = .ok (.istore_n 3, 1) := by decide +kernel
theorem dX2_isJoining_12 : decode cX2_isJoining 12 = .ok (.iload_n 1, 1) := by decide +kernel
theorem dX2_isJoining_13 : decode cX2_isJoining 13 = .ok (.tableswitch 94 0 3 #[31, 43, 55, 76], 31) := by decide +kernel
theorem dX2_isJoining_44 : decode cX2_isJoining 44 = .ok (.iload_n 3, 1) := by decide +kernel
theorem dX2_isJoining_45 : decode cX2_isJoining 45 = .ok (.bipush 124, 2) := by decide +kernel
theorem dX2_isJoining_47 : decode cX2_isJoining 47 = .ok (.if_icmp .ne 7, 3) := by decide +kernel
theorem dX2_isJoining_50 : decode cX2_isJoining 50 = .ok (.iconst 1, 1) := by decide +kernel
theorem dX2_isJoining_51 : decode cX2_isJoining 51 = .ok (.goto 4, 3) := by decide +kernel
theorem dX2_isJoining_54 : decode cX2_isJoining 54 = .ok (.iconst 0, 1) := by decide +kernel
theorem dX2_isJoining_55 : decode cX2_isJoining 55 = .ok (.ireturn, 1) := by decide +kernel
theorem dX2_isJoining_56 : decode cX2_isJoining 56 = .ok (.iload_n 3, 1) := by decide +kernel
theorem dX2_isJoining_57 : decode cX2_isJoining 57 = .ok (.bipush 38, 2) := by decide +kernel
theorem dX2_isJoining_59 : decode cX2_isJoining 59 = .ok (.if_icmp .ne 7, 3) := by decide +kernel
theorem dX2_isJoining_62 : decode cX2_isJoining 62 = .ok (.iconst 1, 1) := by decide +kernel
theorem dX2_isJoining_63 : decode cX2_isJoining 63 = .ok (.goto 4, 3) := by decide +kernel
theorem dX2_isJoining_66 : decode cX2_isJoining 66 = .ok (.iconst 0, 1) := by decide +kernel
theorem dX2_isJoining_67 : decode cX2_isJoining 67 = .ok (.ireturn, 1) := by decide +kernel
theorem dX2_isJoining_68 : decode cX2_isJoining 68 = .ok (.iload_n 2, 1) := by decide +kernel
theorem dX2_isJoining_69 : decode cX2_isJoining 69 = .ok (.ifCond .ne 18, 3) := by decide +kernel
theorem dX2_isJoining_72 : decode cX2_isJoining 72 = .ok (.iload_n 3, 1) := by decide +kernel
theorem dX2_isJoining_73 : decode cX2_isJoining 73 = .ok (.bipush 60, 2) := by decide +kernel
theorem dX2_isJoining_75 : decode cX2_isJoining 75 = .ok (.bipush 62, 2) := by decide +kernel
theorem dX2_isJoining_77 : decode cX2_isJoining 77 = .ok (.invokestatic 52, 3) := by decide +kernel
theorem dX2_isJoining_80 : decode cX2_isJoining 80 = .ok (.ifCond .eq 7, 3) := by decide +kernel
theorem dX2_isJoining_83 : decode cX2_isJoining 83 = .ok (.iconst 1, 1) := by decide +kernel
theorem dX2_isJoining_84 : decode cX2_isJoining 84 = .ok (.goto 4, 3) := by decide +kernel
theorem dX2_isJoining_87 : decode cX2_isJoining 87 = .ok (.iconst 0, 1) := by decide +kernel
theorem dX2_isJoining_88 : decode cX2_isJoining 88 = .ok (.ireturn, 1) := by decide +kernel
theorem dX2_isJoining_89 : decode cX2_isJoining 89 = .ok (.iload_n 3, 1) := by decide +kernel
theorem dX2_isJoining_90 : decode cX2_isJoining 90 = .ok (.bipush 43, 2) := by decide +kernel
theorem dX2_isJoining_92 : decode cX2_isJoining 92 = .ok (.if_icmp .eq 9, 3) := by decide +kernel
theorem dX2_isJoining_95 : decode cX2_isJoining 95 = .ok (.iload_n 3, 1) := by decide +kernel
theorem dX2_isJoining_96 : decode cX2_isJoining 96 = .ok (.bipush 45, 2) := by decide +kernel
theorem dX2_isJoining_98 : decode cX2_isJoining 98 = .ok (.if_icmp .ne 7, 3) := by decide +kernel
theorem dX2_isJoining_101 : decode cX2_isJoining 101 = .ok (.iconst 1, 1) := by decide +kernel
theorem dX2_isJoining_102 : decode cX2_isJoining 102 = .ok (.goto 4, 3) := by decide +kernel
theorem dX2_isJoining_105 : decode cX2_isJoining 105 = .ok (.iconst 0, 1) := by decide +kernel
theorem dX2_isJoining_106 : decode cX2_isJoining 106 = .ok (.ireturn, 1) := by decide +kernel
theorem dX2_isJoining_107 : decode cX2_isJoining 107 = .ok (.iload_n 3, 1) := by decide +kernel
theorem dX2_isJoining_108 : decode cX2_isJoining 108 = .ok (.bipush 42, 2) := by decide +kernel
theorem dX2_isJoining_110 : decode cX2_isJoining 110 = .ok (.if_icmp .eq 15, 3) := by decide +kernel
theorem dX2_isJoining_113 : decode cX2_isJoining 113 = .ok (.iload_n 3, 1) := by decide +kernel
theorem dX2_isJoining_114 : decode cX2_isJoining 114 = .ok (.bipush 47, 2) := by decide +kernel
theorem dX2_isJoining_116 : decode cX2_isJoining 116 = .ok (.if_icmp .eq 9, 3) := by decide +kernel
theorem dX2_isJoining_119 : decode cX2_isJoining 119 = .ok (.iload_n 3, 1) := by decide +kernel
theorem dX2_isJoining_120 : decode cX2_isJoining 120 = .ok (.bipush 37, 2) := by decide +kernel
theorem dX2_isJoining_122 : decode cX2_isJoining 122 = .ok (.if_icmp .ne 7, 3) := by decide +kernel
theorem dX2_isJoining_125 : decode cX2_isJoining 125 = .ok (.iconst 1, 1) := by decide +kernel
theorem dX2_isJoining_126 : decode cX2_isJoining 126 = .ok (.goto 4, 3) := by decide +kernel
theorem dX2_isJoining_129 : decode cX2_isJoining 129 = .ok (.iconst 0, 1) := by decide +kernel
theorem dX2_isJoining_130 : decode cX2_isJoining 130 = .ok (.ireturn, 1) := by decide +kernel
def fX2_isJoining_B55 (w0 : Int32) (M : Mm) : Option (Bool × Mm) :=
  gd (isb w0) (some (decide (w0 = 1), M))
theorem tX2_isJoining_B55 (l : Launch) (G : Gx) (w0 : Int32) (M : Mm) : Sim cQz l layC G 3 cX2_isJoining RX2 4 (some .boolean) 55 [] [.int w0] M (fX2_isJoining_B55 w0 M) := by
  unfold fX2_isJoining_B55
  exact s_zretI rfl dX2_isJoining_55
def fX2_isJoining_B67 (w0 : Int32) (M : Mm) : Option (Bool × Mm) :=
  gd (isb w0) (some (decide (w0 = 1), M))
theorem tX2_isJoining_B67 (l : Launch) (G : Gx) (w0 : Int32) (M : Mm) : Sim cQz l layC G 3 cX2_isJoining RX2 4 (some .boolean) 67 [] [.int w0] M (fX2_isJoining_B67 w0 M) := by
  unfold fX2_isJoining_B67
  exact s_zretI rfl dX2_isJoining_67
def fX2_isJoining_B88 (w0 : Int32) (M : Mm) : Option (Bool × Mm) :=
  gd (isb w0) (some (decide (w0 = 1), M))
theorem tX2_isJoining_B88 (l : Launch) (G : Gx) (w0 : Int32) (M : Mm) : Sim cQz l layC G 3 cX2_isJoining RX2 4 (some .boolean) 88 [] [.int w0] M (fX2_isJoining_B88 w0 M) := by
  unfold fX2_isJoining_B88
  exact s_zretI rfl dX2_isJoining_88
def fX2_isJoining_B87 (M : Mm) : Option (Bool × Mm) :=
  fX2_isJoining_B88 (0 : Int32) M
theorem tX2_isJoining_B87 (l : Launch) (G : Gx) (M : Mm) : Sim cQz l layC G 3 cX2_isJoining RX2 4 (some .boolean) 87 [] [] M (fX2_isJoining_B87 M) := by
  unfold fX2_isJoining_B87
  refine s_iconst (v := 0) dX2_isJoining_87 ci_0 ?_
  exact s_sub [] rfl (tX2_isJoining_B88 l G (0 : Int32) M)
def fX2_isJoining_B106 (w0 : Int32) (M : Mm) : Option (Bool × Mm) :=
  gd (isb w0) (some (decide (w0 = 1), M))
theorem tX2_isJoining_B106 (l : Launch) (G : Gx) (w0 : Int32) (M : Mm) : Sim cQz l layC G 3 cX2_isJoining RX2 4 (some .boolean) 106 [] [.int w0] M (fX2_isJoining_B106 w0 M) := by
  unfold fX2_isJoining_B106
  exact s_zretI rfl dX2_isJoining_106
def fX2_isJoining_B101 (M : Mm) : Option (Bool × Mm) :=
  fX2_isJoining_B106 (1 : Int32) M
theorem tX2_isJoining_B101 (l : Launch) (G : Gx) (M : Mm) : Sim cQz l layC G 3 cX2_isJoining RX2 4 (some .boolean) 101 [] [] M (fX2_isJoining_B101 M) := by
  unfold fX2_isJoining_B101
  refine s_iconst (v := 1) dX2_isJoining_101 ci_1 ?_
  refine s_goto (tgt := 106) dX2_isJoining_102 (by decide) ?_
  exact s_sub [] rfl (tX2_isJoining_B106 l G (1 : Int32) M)
def fX2_isJoining_B130 (w0 : Int32) (M : Mm) : Option (Bool × Mm) :=
  gd (isb w0) (some (decide (w0 = 1), M))
theorem tX2_isJoining_B130 (l : Launch) (G : Gx) (w0 : Int32) (M : Mm) : Sim cQz l layC G 3 cX2_isJoining RX2 4 (some .boolean) 130 [] [.int w0] M (fX2_isJoining_B130 w0 M) := by
  unfold fX2_isJoining_B130
  exact s_zretI rfl dX2_isJoining_130
def fX2_isJoining_B125 (M : Mm) : Option (Bool × Mm) :=
  fX2_isJoining_B130 (1 : Int32) M
theorem tX2_isJoining_B125 (l : Launch) (G : Gx) (M : Mm) : Sim cQz l layC G 3 cX2_isJoining RX2 4 (some .boolean) 125 [] [] M (fX2_isJoining_B125 M) := by
  unfold fX2_isJoining_B125
  refine s_iconst (v := 1) dX2_isJoining_125 ci_1 ?_
  refine s_goto (tgt := 130) dX2_isJoining_126 (by decide) ?_
  exact s_sub [] rfl (tX2_isJoining_B130 l G (1 : Int32) M)
def fX2_isJoining (a1 : Int32) (a2 : Int32) (M : Mm) : Option (Bool × Mm) :=
  bd (fX5_at 64 (M 153 2) M) fun r1 M2 =>
  if a1 = 0 then (if r1 = (124 : Int32) then (fX2_isJoining_B55 (1 : Int32) M2)
  else fX2_isJoining_B55 (0 : Int32) M2)
  else if a1 = 1 then (if r1 = (38 : Int32) then (fX2_isJoining_B67 (1 : Int32) M2)
  else fX2_isJoining_B67 (0 : Int32) M2)
  else if a1 = 2 then (if a2 = 0 then (bd (fX9_isWithin r1 (60 : Int32) (62 : Int32) M2) fun r3 M4 =>
  if r3 = true then (fX2_isJoining_B88 (1 : Int32) M4)
  else fX2_isJoining_B87 M4)
  else fX2_isJoining_B87 M2)
  else if a1 = 3 then (if r1 = (43 : Int32) then (fX2_isJoining_B101 M2)
  else if r1 = (45 : Int32) then (fX2_isJoining_B101 M2)
  else fX2_isJoining_B106 (0 : Int32) M2)
  else if r1 = (42 : Int32) then (fX2_isJoining_B125 M2)
  else if r1 = (47 : Int32) then (fX2_isJoining_B125 M2)
  else if r1 = (37 : Int32) then (fX2_isJoining_B125 M2)
  else fX2_isJoining_B130 (0 : Int32) M2
theorem mX2_isJoining (l : Launch) (G : Gx) (a1 : Int32) (a2 : Int32) (M : Mm) : Mt cQz l layC G 3 yX2_isJoining cX2_isJoining 4 (some .boolean) [rf G 153, .int a1, .int a2] M (fX2_isJoining a1 a2 M) := by
  refine Mt.of2 (own := RX2) (lv := [(0, rf G 153), (1, .int a1), (2, .int a2)]) rfl (by decide +kernel) rfl rfl ?_
  unfold fX2_isJoining
  refine s_aload_n 0 dX2_isJoining_0 rfl rfl ?_
  refine g_X2_20 (q := 64) rfl rfl dX2_isJoining_1 ?_
  refine s_aload_n 0 dX2_isJoining_4 rfl rfl ?_
  refine g_X2_26 rfl dX2_isJoining_5 ?_
  refine s_call_i (s_runV (ci := 5) (rest := []) rfl rfl (mX5_at l G 64 (M 153 2) M) ok_X5_at k_X2_45 rfl rfl rfl rfl dX2_isJoining_8) fun r1 M2 => ?_
  refine s_istore_n (lv' := [(3, .int r1), (0, rf G 153), (1, .int a1), (2, .int a2)]) dX2_isJoining_11 rfl rfl rfl ?_
  refine s_iload_n 2 dX2_isJoining_12 rfl rfl ?_
  refine s_table (tgt := 107) dX2_isJoining_13 (by decide) (by decide) (by decide) ?_
  refine lk_cons (k := 0) (tgt := 44) (by decide) (by decide) ?_ ?_
  · refine s_iload_n 0 dX2_isJoining_44 rfl rfl ?_
    refine s_bipush (v := 124) dX2_isJoining_45 cb_124 ?_
    refine s_icmpne (tgt := 54) dX2_isJoining_47 (by decide) ?_ ?_
    · refine s_iconst (v := 0) dX2_isJoining_54 ci_0 ?_
      exact s_sub [] rfl (tX2_isJoining_B55 l G (0 : Int32) M2)
    · refine s_iconst (v := 1) dX2_isJoining_50 ci_1 ?_
      refine s_goto (tgt := 55) dX2_isJoining_51 (by decide) ?_
      exact s_sub [] rfl (tX2_isJoining_B55 l G (1 : Int32) M2)
  refine lk_cons (k := 1) (tgt := 56) (by decide) (by decide) ?_ ?_
  · refine s_iload_n 0 dX2_isJoining_56 rfl rfl ?_
    refine s_bipush (v := 38) dX2_isJoining_57 cb_38 ?_
    refine s_icmpne (tgt := 66) dX2_isJoining_59 (by decide) ?_ ?_
    · refine s_iconst (v := 0) dX2_isJoining_66 ci_0 ?_
      exact s_sub [] rfl (tX2_isJoining_B67 l G (0 : Int32) M2)
    · refine s_iconst (v := 1) dX2_isJoining_62 ci_1 ?_
      refine s_goto (tgt := 67) dX2_isJoining_63 (by decide) ?_
      exact s_sub [] rfl (tX2_isJoining_B67 l G (1 : Int32) M2)
  refine lk_cons (k := 2) (tgt := 68) (by decide) (by decide) ?_ ?_
  · refine s_iload_n 3 dX2_isJoining_68 rfl rfl ?_
    refine s_ifne (tgt := 87) dX2_isJoining_69 (by decide) ?_ ?_
    · exact s_sub [] rfl (tX2_isJoining_B87 l G M2)
    · refine s_iload_n 0 dX2_isJoining_72 rfl rfl ?_
      refine s_bipush (v := 60) dX2_isJoining_73 cb_60 ?_
      refine s_bipush (v := 62) dX2_isJoining_75 cb_62 ?_
      refine s_call_z (s_runSN (rest := []) (mX9_isWithin l G r1 (60 : Int32) (62 : Int32) M2) ok_X9_isWithin k_X2_52 rfl rfl rfl rfl dX2_isJoining_77) fun r3 M4 => ?_
      refine s_ifeqB (tgt := 87) dX2_isJoining_80 (by decide) ?_ ?_
      · exact s_sub [] rfl (tX2_isJoining_B87 l G M4)
      · refine s_iconst (v := 1) dX2_isJoining_83 ci_1 ?_
        refine s_goto (tgt := 88) dX2_isJoining_84 (by decide) ?_
        exact s_sub [] rfl (tX2_isJoining_B88 l G (1 : Int32) M4)
  refine lk_cons (k := 3) (tgt := 89) (by decide) (by decide) ?_ ?_
  · refine s_iload_n 0 dX2_isJoining_89 rfl rfl ?_
    refine s_bipush (v := 43) dX2_isJoining_90 cb_43 ?_
    refine s_icmpeq (tgt := 101) dX2_isJoining_92 (by decide) ?_ ?_
    · exact s_sub [] rfl (tX2_isJoining_B101 l G M2)
    · refine s_iload_n 0 dX2_isJoining_95 rfl rfl ?_
      refine s_bipush (v := 45) dX2_isJoining_96 cb_45 ?_
      refine s_icmpne (tgt := 105) dX2_isJoining_98 (by decide) ?_ ?_
      · refine s_iconst (v := 0) dX2_isJoining_105 ci_0 ?_
        exact s_sub [] rfl (tX2_isJoining_B106 l G (0 : Int32) M2)
      · exact s_sub [] rfl (tX2_isJoining_B101 l G M2)
  refine lk_nil (tgt := 107) (by decide) ?_
  refine s_iload_n 0 dX2_isJoining_107 rfl rfl ?_
  refine s_bipush (v := 42) dX2_isJoining_108 cb_42 ?_
  refine s_icmpeq (tgt := 125) dX2_isJoining_110 (by decide) ?_ ?_
  · exact s_sub [] rfl (tX2_isJoining_B125 l G M2)
  · refine s_iload_n 0 dX2_isJoining_113 rfl rfl ?_
    refine s_bipush (v := 47) dX2_isJoining_114 cb_47 ?_
    refine s_icmpeq (tgt := 125) dX2_isJoining_116 (by decide) ?_ ?_
    · exact s_sub [] rfl (tX2_isJoining_B125 l G M2)
    · refine s_iload_n 0 dX2_isJoining_119 rfl rfl ?_
      refine s_bipush (v := 37) dX2_isJoining_120 cb_37 ?_
      refine s_icmpne (tgt := 129) dX2_isJoining_122 (by decide) ?_ ?_
      · refine s_iconst (v := 0) dX2_isJoining_129 ci_0 ?_
        exact s_sub [] rfl (tX2_isJoining_B130 l G (0 : Int32) M2)
      · exact s_sub [] rfl (tX2_isJoining_B125 l G M2)
theorem dX2_isDigit_0 : decode cX2_isDigit 0 = .ok (.iload_n 0, 1) := by decide +kernel
theorem dX2_isDigit_1 : decode cX2_isDigit 1 = .ok (.bipush 48, 2) := by decide +kernel
theorem dX2_isDigit_3 : decode cX2_isDigit 3 = .ok (.bipush 57, 2) := by decide +kernel
theorem dX2_isDigit_5 : decode cX2_isDigit 5 = .ok (.invokestatic 52, 3) := by decide +kernel
theorem dX2_isDigit_8 : decode cX2_isDigit 8 = .ok (.ireturn, 1) := by decide +kernel
def fX2_isDigit (a1 : Int32) (M : Mm) : Option (Bool × Mm) :=
  bd (fX9_isWithin a1 (48 : Int32) (57 : Int32) M) fun r1 M2 =>
  some (r1, M2)
theorem mX2_isDigit (l : Launch) (G : Gx) (a1 : Int32) (M : Mm) : Mt cQz l layC G 2 yX2_isDigit cX2_isDigit 1 (some .boolean) [.int a1] M (fX2_isDigit a1 M) := by
  refine Mt.of2 (own := RX2) (lv := [(0, .int a1)]) rfl (by decide +kernel) rfl rfl ?_
  unfold fX2_isDigit
  refine s_iload_n 0 dX2_isDigit_0 rfl rfl ?_
  refine s_bipush (v := 48) dX2_isDigit_1 cb_48 ?_
  refine s_bipush (v := 57) dX2_isDigit_3 cb_57 ?_
  refine s_call_z (s_runSN (rest := []) (mX9_isWithin l G a1 (48 : Int32) (57 : Int32) M) ok_X9_isWithin k_X2_52 rfl rfl rfl rfl dX2_isDigit_5) fun r1 M2 => ?_
  exact s_zretB rfl dX2_isDigit_8
theorem dX2_readNumber_0 : decode cX2_readNumber 0 = .ok (.iconst 0, 1) := by decide +kernel
theorem dX2_readNumber_1 : decode cX2_readNumber 1 = .ok (.istore_n 1, 1) := by decide +kernel
theorem dX2_readNumber_2 : decode cX2_readNumber 2 = .ok (.iconst 0, 1) := by decide +kernel
theorem dX2_readNumber_3 : decode cX2_readNumber 3 = .ok (.istore_n 2, 1) := by decide +kernel
theorem dX2_readNumber_4 : decode cX2_readNumber 4 = .ok (.iload_n 2, 1) := by decide +kernel
theorem dX2_readNumber_5 : decode cX2_readNumber 5 = .ok (.iconst 4, 1) := by decide +kernel
theorem dX2_readNumber_6 : decode cX2_readNumber 6 = .ok (.if_icmp .ge 56, 3) := by decide +kernel
theorem dX2_readNumber_9 : decode cX2_readNumber 9 = .ok (.aload_n 0, 1) := by decide +kernel
theorem dX2_readNumber_10 : decode cX2_readNumber 10 = .ok (.getfield 20, 3) := by decide +kernel
theorem dX2_readNumber_13 : decode cX2_readNumber 13 = .ok (.aload_n 0, 1) := by decide +kernel
theorem dX2_readNumber_14 : decode cX2_readNumber 14 = .ok (.getfield 26, 3) := by decide +kernel
theorem dX2_readNumber_17 : decode cX2_readNumber 17 = .ok (.invokevirtual 45, 3) := by decide +kernel
theorem dX2_readNumber_20 : decode cX2_readNumber 20 = .ok (.invokestatic 56, 3) := by decide +kernel
theorem dX2_readNumber_23 : decode cX2_readNumber 23 = .ok (.ifCond .eq 39, 3) := by decide +kernel
theorem dX2_readNumber_26 : decode cX2_readNumber 26 = .ok (.iload_n 1, 1) := by decide +kernel
theorem dX2_readNumber_27 : decode cX2_readNumber 27 = .ok (.bipush 10, 2) := by decide +kernel
theorem dX2_readNumber_29 : decode cX2_readNumber 29 = .ok (.imul, 1) := by decide +kernel
theorem dX2_readNumber_30 : decode cX2_readNumber 30 = .ok (.aload_n 0, 1) := by decide +kernel
theorem dX2_readNumber_31 : decode cX2_readNumber 31 = .ok (.getfield 20, 3) := by decide +kernel
theorem dX2_readNumber_34 : decode cX2_readNumber 34 = .ok (.aload_n 0, 1) := by decide +kernel
theorem dX2_readNumber_35 : decode cX2_readNumber 35 = .ok (.getfield 26, 3) := by decide +kernel
theorem dX2_readNumber_38 : decode cX2_readNumber 38 = .ok (.invokevirtual 45, 3) := by decide +kernel
theorem dX2_readNumber_41 : decode cX2_readNumber 41 = .ok (.iadd, 1) := by decide +kernel
theorem dX2_readNumber_42 : decode cX2_readNumber 42 = .ok (.bipush 48, 2) := by decide +kernel
theorem dX2_readNumber_44 : decode cX2_readNumber 44 = .ok (.isub, 1) := by decide +kernel
theorem dX2_readNumber_45 : decode cX2_readNumber 45 = .ok (.istore_n 1, 1) := by decide +kernel
theorem dX2_readNumber_46 : decode cX2_readNumber 46 = .ok (.aload_n 0, 1) := by decide +kernel
theorem dX2_readNumber_47 : decode cX2_readNumber 47 = .ok (.dup, 1) := by decide +kernel
theorem dX2_readNumber_48 : decode cX2_readNumber 48 = .ok (.getfield 26, 3) := by decide +kernel
theorem dX2_readNumber_51 : decode cX2_readNumber 51 = .ok (.iconst 1, 1) := by decide +kernel
theorem dX2_readNumber_52 : decode cX2_readNumber 52 = .ok (.iadd, 1) := by decide +kernel
theorem dX2_readNumber_53 : decode cX2_readNumber 53 = .ok (.putfield 26, 3) := by decide +kernel
theorem dX2_readNumber_56 : decode cX2_readNumber 56 = .ok (.iinc 2 1, 3) := by decide +kernel
theorem dX2_readNumber_59 : decode cX2_readNumber 59 = .ok (.goto (-55), 3) := by decide +kernel
theorem dX2_readNumber_62 : decode cX2_readNumber 62 = .ok (.aload_n 0, 1) := by decide +kernel
theorem dX2_readNumber_63 : decode cX2_readNumber 63 = .ok (.getfield 14, 3) := by decide +kernel
theorem dX2_readNumber_66 : decode cX2_readNumber 66 = .ok (.iload_n 1, 1) := by decide +kernel
theorem dX2_readNumber_67 : decode cX2_readNumber 67 = .ok (.invokevirtual 48, 3) := by decide +kernel
theorem dX2_readNumber_70 : decode cX2_readNumber 70 = .ok (.pop, 1) := by decide +kernel
theorem dX2_readNumber_71 : decode cX2_readNumber 71 = .ok (.return_, 1) := by decide +kernel
def fX2_readNumber_B62 (v1 : Int32) (M : Mm) : Option (Unit × Mm) :=
  bd (fX5_add 154 v1 M) fun r1 M2 =>
  some ((), M2)
theorem tX2_readNumber_B62 (l : Launch) (G : Gx) (v1 : Int32) (M : Mm) : Sim cQv l layC G 3 cX2_readNumber RX2 3 none 62 [(1, .int v1), (0, rf G 153)] [] M (fX2_readNumber_B62 v1 M) := by
  unfold fX2_readNumber_B62
  refine s_aload_n 1 dX2_readNumber_62 rfl rfl ?_
  refine g_X2_14 (q := 154) rfl rfl dX2_readNumber_63 ?_
  refine s_iload_n 0 dX2_readNumber_66 rfl rfl ?_
  refine s_call_z (s_runV (ci := 5) (rest := []) rfl rfl (mX5_add l G 154 v1 M) ok_X5_add k_X2_48 rfl rfl rfl rfl dX2_readNumber_67) fun r1 M2 => ?_
  refine s_pop dX2_readNumber_70 rfl ?_
  exact s_vret rfl dX2_readNumber_71
def fX2_readNumber_L4b (q4 : Int32 → Int32 → Mm → Option (Unit × Mm)) (v2 : Int32) (v1 : Int32) (M : Mm) : Option (Unit × Mm) :=
  if (4 : Int32) ≤ v2 then (fX2_readNumber_B62 v1 M)
  else bd (fX5_at 64 (M 153 2) M) fun r3 M4 =>
  bd (fX2_isDigit r3 M4) fun r5 M6 =>
  if r5 = true then (bd (fX5_at 64 (M6 153 2) M6) fun r7 M8 =>
  lt (((v1 * (10 : Int32)) + r7) - (48 : Int32)) fun x9 =>
  lt (wr M8 153 2 ((M8 153 2) + (1 : Int32))) fun M10 =>
  q4 (v2 + 1) x9 M10)
  else fX2_readNumber_B62 v1 M6
def fX2_readNumber_L4  : Nat → Int32 → Int32 → Mm → Option (Unit × Mm)
  | 0 => fun _ _ _ => none
  | n + 1 => fX2_readNumber_L4b  (fX2_readNumber_L4  n)
theorem tX2_readNumber_L4b (l : Launch) (G : Gx) (q4 : Int32 → Int32 → Mm → Option (Unit × Mm)) (hq4 : ∀ (v2 : Int32) (v1 : Int32) (M : Mm), Sim cQv l layC G 3 cX2_readNumber RX2 3 none 4 [(2, .int v2), (1, .int v1), (0, rf G 153)] [] M (q4 v2 v1 M)) (v2 : Int32) (v1 : Int32) (M : Mm) : Sim cQv l layC G 3 cX2_readNumber RX2 3 none 4 [(2, .int v2), (1, .int v1), (0, rf G 153)] [] M (fX2_readNumber_L4b q4 v2 v1 M) := by
  unfold fX2_readNumber_L4b
  refine s_iload_n 0 dX2_readNumber_4 rfl rfl ?_
  refine s_iconst (v := 4) dX2_readNumber_5 ci_4 ?_
  refine s_icmpge (tgt := 62) dX2_readNumber_6 (by decide) ?_ ?_
  · exact s_sub [1, 2] rfl (tX2_readNumber_B62 l G v1 M)
  · refine s_aload_n 2 dX2_readNumber_9 rfl rfl ?_
    refine g_X2_20 (q := 64) rfl rfl dX2_readNumber_10 ?_
    refine s_aload_n 2 dX2_readNumber_13 rfl rfl ?_
    refine g_X2_26 rfl dX2_readNumber_14 ?_
    refine s_call_i (s_runV (ci := 5) (rest := []) rfl rfl (mX5_at l G 64 (M 153 2) M) ok_X5_at k_X2_45 rfl rfl rfl rfl dX2_readNumber_17) fun r3 M4 => ?_
    refine s_call_z (s_runS (rest := []) (mX2_isDigit l G r3 M4) ok_X2_isDigit k_X2_56 rfl rfl rfl rfl dX2_readNumber_20) fun r5 M6 => ?_
    refine s_ifeqB (tgt := 62) dX2_readNumber_23 (by decide) ?_ ?_
    · exact s_sub [1, 2] rfl (tX2_readNumber_B62 l G v1 M6)
    · refine s_iload_n 1 dX2_readNumber_26 rfl rfl ?_
      refine s_bipush (v := 10) dX2_readNumber_27 cb_10 ?_
      refine s_imul dX2_readNumber_29 ?_
      refine s_aload_n 2 dX2_readNumber_30 rfl rfl ?_
      refine g_X2_20 (q := 64) rfl rfl dX2_readNumber_31 ?_
      refine s_aload_n 2 dX2_readNumber_34 rfl rfl ?_
      refine g_X2_26 rfl dX2_readNumber_35 ?_
      refine s_call_i (s_runV (ci := 5) (rest := [.int (v1 * (10 : Int32))]) rfl rfl (mX5_at l G 64 (M6 153 2) M6) ok_X5_at k_X2_45 rfl rfl rfl rfl dX2_readNumber_38) fun r7 M8 => ?_
      refine s_iadd dX2_readNumber_41 ?_
      refine s_bipush (v := 48) dX2_readNumber_42 cb_48 ?_
      refine s_isub dX2_readNumber_44 ?_
      refine s_leti fun x9 => ?_
      refine s_istore_n (lv' := [(1, .int x9), (2, .int v2), (0, rf G 153)]) dX2_readNumber_45 rfl rfl rfl ?_
      refine s_aload_n 2 dX2_readNumber_46 rfl rfl ?_
      refine s_dup dX2_readNumber_47 rfl ?_
      refine g_X2_26 rfl dX2_readNumber_48 ?_
      refine s_iconst (v := 1) dX2_readNumber_51 ci_1 ?_
      refine s_iadd dX2_readNumber_52 ?_
      refine p_X2_26 rfl dX2_readNumber_53 ?_
      refine s_letM fun M10 => ?_
      refine s_iinc (k := 1) (lv' := [(2, .int (v2 + 1)), (1, .int x9), (0, rf G 153)]) dX2_readNumber_56 rfl ci_1 rfl rfl ?_
      refine s_goto (tgt := 4) dX2_readNumber_59 (by decide) ?_
      exact s_sub [0, 1, 2] rfl (hq4 (v2 + 1) x9 M10)
theorem tX2_readNumber_L4 (l : Launch) (G : Gx) : ∀ (n : Nat) (v2 : Int32) (v1 : Int32) (M : Mm), Sim cQv l layC G 3 cX2_readNumber RX2 3 none 4 [(2, .int v2), (1, .int v1), (0, rf G 153)] [] M (fX2_readNumber_L4 n v2 v1 M)
  | 0, _, _, _ => s_none
  | n + 1, v2, v1, M => tX2_readNumber_L4b l G _ (tX2_readNumber_L4 l G n) v2 v1 M
def fX2_readNumber  (M : Mm) : Option (Unit × Mm) :=
  fX2_readNumber_L4 FU (0 : Int32) (0 : Int32) M
theorem mX2_readNumber (l : Launch) (G : Gx)  (M : Mm) : Mt cQv l layC G 3 yX2_readNumber cX2_readNumber 3 none [rf G 153] M (fX2_readNumber M) := by
  refine Mt.of2 (own := RX2) (lv := [(0, rf G 153)]) rfl (by decide +kernel) rfl rfl ?_
  unfold fX2_readNumber
  refine s_iconst (v := 0) dX2_readNumber_0 ci_0 ?_
  refine s_istore_n (lv' := [(1, .int (0 : Int32)), (0, rf G 153)]) dX2_readNumber_1 rfl rfl rfl ?_
  refine s_iconst (v := 0) dX2_readNumber_2 ci_0 ?_
  refine s_istore_n (lv' := [(2, .int (0 : Int32)), (1, .int (0 : Int32)), (0, rf G 153)]) dX2_readNumber_3 rfl rfl rfl ?_
  exact s_sub [0, 1, 2] rfl (tX2_readNumber_L4 l G FU (0 : Int32) (0 : Int32) M)
theorem dJ0_isLatin1_aae02_0 : decode cJ0_isLatin1_aae02 0 = .ok (.getstatic 38, 3) := by decide +kernel
theorem dJ0_isLatin1_aae02_3 : decode cJ0_isLatin1_aae02 3 = .ok (.ifCond .eq 14, 3) := by decide +kernel
theorem dJ0_isLatin1_aae02_6 : decode cJ0_isLatin1_aae02 6 = .ok (.aload_n 0, 1) := by decide +kernel
theorem dJ0_isLatin1_aae02_7 : decode cJ0_isLatin1_aae02 7 = .ok (.getfield 15, 3) := by decide +kernel
theorem dJ0_isLatin1_aae02_10 : decode cJ0_isLatin1_aae02 10 = .ok (.ifCond .ne 7, 3) := by decide +kernel
theorem dJ0_isLatin1_aae02_13 : decode cJ0_isLatin1_aae02 13 = .ok (.iconst 1, 1) := by decide +kernel
theorem dJ0_isLatin1_aae02_14 : decode cJ0_isLatin1_aae02 14 = .ok (.goto 4, 3) := by decide +kernel
theorem dJ0_isLatin1_aae02_17 : decode cJ0_isLatin1_aae02 17 = .ok (.iconst 0, 1) := by decide +kernel
theorem dJ0_isLatin1_aae02_18 : decode cJ0_isLatin1_aae02 18 = .ok (.ireturn, 1) := by decide +kernel
def fJ0_isLatin1_aae02_B18 (w0 : Int32) (M : Mm) : Option (Bool × Mm) :=
  gd (isb w0) (some (decide (w0 = 1), M))
theorem tJ0_isLatin1_aae02_B18 (l : Launch) (G : Gx) (w0 : Int32) (M : Mm) : Sim cQz l layC G 1 cJ0_isLatin1_aae02 RJ0 1 (some .boolean) 18 [] [.int w0] M (fJ0_isLatin1_aae02_B18 w0 M) := by
  unfold fJ0_isLatin1_aae02_B18
  exact s_zretI rfl dJ0_isLatin1_aae02_18
def fJ0_isLatin1_aae02_B17 (M : Mm) : Option (Bool × Mm) :=
  fJ0_isLatin1_aae02_B18 (0 : Int32) M
theorem tJ0_isLatin1_aae02_B17 (l : Launch) (G : Gx) (M : Mm) : Sim cQz l layC G 1 cJ0_isLatin1_aae02 RJ0 1 (some .boolean) 17 [] [] M (fJ0_isLatin1_aae02_B17 M) := by
  unfold fJ0_isLatin1_aae02_B17
  refine s_iconst (v := 0) dJ0_isLatin1_aae02_17 ci_0 ?_
  exact s_sub [] rfl (tJ0_isLatin1_aae02_B18 l G (0 : Int32) M)
def fJ0_isLatin1_aae02 (u0 : Nat) (M : Mm) : Option (Bool × Mm) :=
  if (1 : Int32) = 0 then (fJ0_isLatin1_aae02_B17 M)
  else gd (decide (u0 < 2)) <|
  if (0 : Int32) = 0 then (fJ0_isLatin1_aae02_B18 (1 : Int32) M)
  else fJ0_isLatin1_aae02_B17 M
theorem mJ0_isLatin1_aae02 (l : Launch) (G : Gx) (u0 : Nat) (M : Mm) : Mt cQz l layC G 1 yJ0_isLatin1_aae02 cJ0_isLatin1_aae02 1 (some .boolean) [xf G (2 + u0)] M (fJ0_isLatin1_aae02 u0 M) := by
  refine Mt.of2 (own := RJ0) (lv := [(0, xf G (2 + u0))]) rfl (by decide +kernel) rfl rfl ?_
  unfold fJ0_isLatin1_aae02
  refine s_getsC q_573 dJ0_isLatin1_aae02_0 ?_
  refine s_ifeq (tgt := 17) dJ0_isLatin1_aae02_3 (by decide) ?_ ?_
  · exact s_sub [] rfl (tJ0_isLatin1_aae02_B17 l G M)
  · refine s_aload_n 0 dJ0_isLatin1_aae02_6 rfl rfl ?_
    refine s_gd fun h1 => ?_
    refine s_strc h1 q_1444 dJ0_isLatin1_aae02_7 ?_
    refine s_ifne (tgt := 17) dJ0_isLatin1_aae02_10 (by decide) ?_ ?_
    · exact s_sub [] rfl (tJ0_isLatin1_aae02_B17 l G M)
    · refine s_iconst (v := 1) dJ0_isLatin1_aae02_13 ci_1 ?_
      refine s_goto (tgt := 18) dJ0_isLatin1_aae02_14 (by decide) ?_
      exact s_sub [] rfl (tJ0_isLatin1_aae02_B18 l G (1 : Int32) M)
theorem dJ0_coder_7d493_0 : decode cJ0_coder_7d493 0 = .ok (.getstatic 38, 3) := by decide +kernel
theorem dJ0_coder_7d493_3 : decode cJ0_coder_7d493 3 = .ok (.ifCond .eq 10, 3) := by decide +kernel
theorem dJ0_coder_7d493_6 : decode cJ0_coder_7d493 6 = .ok (.aload_n 0, 1) := by decide +kernel
theorem dJ0_coder_7d493_7 : decode cJ0_coder_7d493 7 = .ok (.getfield 15, 3) := by decide +kernel
theorem dJ0_coder_7d493_10 : decode cJ0_coder_7d493 10 = .ok (.goto 4, 3) := by decide +kernel
theorem dJ0_coder_7d493_13 : decode cJ0_coder_7d493 13 = .ok (.iconst 1, 1) := by decide +kernel
theorem dJ0_coder_7d493_14 : decode cJ0_coder_7d493 14 = .ok (.ireturn, 1) := by decide +kernel
def fJ0_coder_7d493_B14 (w0 : Int32) (M : Mm) : Option (Int32 × Mm) :=
  gd (decide (w0.toInt8.toInt32 = w0)) (some (w0, M))
theorem tJ0_coder_7d493_B14 (l : Launch) (G : Gx) (w0 : Int32) (M : Mm) : Sim cQi l layC G 1 cJ0_coder_7d493 RJ0 1 (some .byte) 14 [] [.int w0] M (fJ0_coder_7d493_B14 w0 M) := by
  unfold fJ0_coder_7d493_B14
  exact s_bret rfl dJ0_coder_7d493_14
def fJ0_coder_7d493 (u0 : Nat) (M : Mm) : Option (Int32 × Mm) :=
  if (1 : Int32) = 0 then (fJ0_coder_7d493_B14 (1 : Int32) M)
  else gd (decide (u0 < 2)) <|
  fJ0_coder_7d493_B14 (0 : Int32) M
theorem mJ0_coder_7d493 (l : Launch) (G : Gx) (u0 : Nat) (M : Mm) : Mt cQi l layC G 1 yJ0_coder_7d493 cJ0_coder_7d493 1 (some .byte) [xf G (2 + u0)] M (fJ0_coder_7d493 u0 M) := by
  refine Mt.of2 (own := RJ0) (lv := [(0, xf G (2 + u0))]) rfl (by decide +kernel) rfl rfl ?_
  unfold fJ0_coder_7d493
  refine s_getsC q_573 dJ0_coder_7d493_0 ?_
  refine s_ifeq (tgt := 13) dJ0_coder_7d493_3 (by decide) ?_ ?_
  · refine s_iconst (v := 1) dJ0_coder_7d493_13 ci_1 ?_
    exact s_sub [] rfl (tJ0_coder_7d493_B14 l G (1 : Int32) M)
  · refine s_aload_n 0 dJ0_coder_7d493_6 rfl rfl ?_
    refine s_gd fun h1 => ?_
    refine s_strc h1 q_1444 dJ0_coder_7d493_7 ?_
    refine s_goto (tgt := 14) dJ0_coder_7d493_10 (by decide) ?_
    exact s_sub [] rfl (tJ0_coder_7d493_B14 l G (0 : Int32) M)
theorem dJ0_length_8abf5_0 : decode cJ0_length_8abf5 0 = .ok (.aload_n 0, 1) := by decide +kernel
theorem dJ0_length_8abf5_1 : decode cJ0_length_8abf5 1 = .ok (.getfield 9, 3) := by decide +kernel
theorem dJ0_length_8abf5_4 : decode cJ0_length_8abf5 4 = .ok (.arraylength, 1) := by decide +kernel
theorem dJ0_length_8abf5_5 : decode cJ0_length_8abf5 5 = .ok (.aload_n 0, 1) := by decide +kernel
theorem dJ0_length_8abf5_6 : decode cJ0_length_8abf5 6 = .ok (.invokevirtual 335, 3) := by decide +kernel
theorem dJ0_length_8abf5_9 : decode cJ0_length_8abf5 9 = .ok (.ishr, 1) := by decide +kernel
theorem dJ0_length_8abf5_10 : decode cJ0_length_8abf5 10 = .ok (.ireturn, 1) := by decide +kernel
def fJ0_length_8abf5 (u0 : Nat) (M : Mm) : Option (Int32 × Mm) :=
  gd (decide (u0 < 2)) <|
  bd (fJ0_coder_7d493 u0 M) fun r2 M3 =>
  some ((Int32.ofNat (sLen.getD u0 0)) >>> (r2 &&& 31), M3)
theorem mJ0_length_8abf5 (l : Launch) (G : Gx) (u0 : Nat) (M : Mm) : Mt cQi l layC G 2 yJ0_length_8abf5 cJ0_length_8abf5 1 (some .int) [xf G (2 + u0)] M (fJ0_length_8abf5 u0 M) := by
  refine Mt.of2 (own := RJ0) (lv := [(0, xf G (2 + u0))]) rfl (by decide +kernel) rfl rfl ?_
  unfold fJ0_length_8abf5
  refine s_aload_n 0 dJ0_length_8abf5_0 rfl rfl ?_
  refine s_gd fun h1 => ?_
  refine s_strv h1 q_1445 dJ0_length_8abf5_1 ?_
  refine s_blen h1 dJ0_length_8abf5_4 ?_
  refine s_aload_n 0 dJ0_length_8abf5_5 rfl rfl ?_
  refine s_call_i (s_runVS (rest := [.int (Int32.ofNat (sLen.getD u0 0))]) h1 (mJ0_coder_7d493 l G u0 M) ok_J0_coder_7d493 k_J0_335 rfl rfl rfl rfl dJ0_length_8abf5_6) fun r2 M3 => ?_
  refine s_ishr dJ0_length_8abf5_9 ?_
  exact s_iret rfl dJ0_length_8abf5_10
theorem dJ1_canEncode_9a6ad_0 : decode cJ1_canEncode_9a6ad 0 = .ok (.iload_n 0, 1) := by decide +kernel
theorem dJ1_canEncode_9a6ad_1 : decode cJ1_canEncode_9a6ad 1 = .ok (.ifCond .lt 14, 3) := by decide +kernel
theorem dJ1_canEncode_9a6ad_4 : decode cJ1_canEncode_9a6ad 4 = .ok (.iload_n 0, 1) := by decide +kernel
theorem dJ1_canEncode_9a6ad_5 : decode cJ1_canEncode_9a6ad 5 = .ok (.sipush 255, 3) := by decide +kernel
theorem dJ1_canEncode_9a6ad_8 : decode cJ1_canEncode_9a6ad 8 = .ok (.if_icmp .gt 7, 3) := by decide +kernel
theorem dJ1_canEncode_9a6ad_11 : decode cJ1_canEncode_9a6ad 11 = .ok (.iconst 1, 1) := by decide +kernel
theorem dJ1_canEncode_9a6ad_12 : decode cJ1_canEncode_9a6ad 12 = .ok (.goto 4, 3) := by decide +kernel
theorem dJ1_canEncode_9a6ad_15 : decode cJ1_canEncode_9a6ad 15 = .ok (.iconst 0, 1) := by decide +kernel
theorem dJ1_canEncode_9a6ad_16 : decode cJ1_canEncode_9a6ad 16 = .ok (.ireturn, 1) := by decide +kernel
def fJ1_canEncode_9a6ad_B16 (w0 : Int32) (M : Mm) : Option (Bool × Mm) :=
  gd (isb w0) (some (decide (w0 = 1), M))
theorem tJ1_canEncode_9a6ad_B16 (l : Launch) (G : Gx) (w0 : Int32) (M : Mm) : Sim cQz l layC G 1 cJ1_canEncode_9a6ad RJ1 1 (some .boolean) 16 [] [.int w0] M (fJ1_canEncode_9a6ad_B16 w0 M) := by
  unfold fJ1_canEncode_9a6ad_B16
  exact s_zretI rfl dJ1_canEncode_9a6ad_16
def fJ1_canEncode_9a6ad_B15 (M : Mm) : Option (Bool × Mm) :=
  fJ1_canEncode_9a6ad_B16 (0 : Int32) M
theorem tJ1_canEncode_9a6ad_B15 (l : Launch) (G : Gx) (M : Mm) : Sim cQz l layC G 1 cJ1_canEncode_9a6ad RJ1 1 (some .boolean) 15 [] [] M (fJ1_canEncode_9a6ad_B15 M) := by
  unfold fJ1_canEncode_9a6ad_B15
  refine s_iconst (v := 0) dJ1_canEncode_9a6ad_15 ci_0 ?_
  exact s_sub [] rfl (tJ1_canEncode_9a6ad_B16 l G (0 : Int32) M)
def fJ1_canEncode_9a6ad (a1 : Int32) (M : Mm) : Option (Bool × Mm) :=
  if a1 < 0 then (fJ1_canEncode_9a6ad_B15 M)
  else if (255 : Int32) < a1 then (fJ1_canEncode_9a6ad_B15 M)
  else fJ1_canEncode_9a6ad_B16 (1 : Int32) M
theorem mJ1_canEncode_9a6ad (l : Launch) (G : Gx) (a1 : Int32) (M : Mm) : Mt cQz l layC G 1 yJ1_canEncode_9a6ad cJ1_canEncode_9a6ad 1 (some .boolean) [.int a1] M (fJ1_canEncode_9a6ad a1 M) := by
  refine Mt.of2 (own := RJ1) (lv := [(0, .int a1)]) rfl (by decide +kernel) rfl rfl ?_
  unfold fJ1_canEncode_9a6ad
  refine s_iload_n 0 dJ1_canEncode_9a6ad_0 rfl rfl ?_
  refine s_iflt (tgt := 15) dJ1_canEncode_9a6ad_1 (by decide) ?_ ?_
  · exact s_sub [] rfl (tJ1_canEncode_9a6ad_B15 l G M)
  · refine s_iload_n 0 dJ1_canEncode_9a6ad_4 rfl rfl ?_
    refine s_sipush (v := 255) dJ1_canEncode_9a6ad_5 cs_255 ?_
    refine s_icmpgt (tgt := 15) dJ1_canEncode_9a6ad_8 (by decide) ?_ ?_
    · exact s_sub [] rfl (tJ1_canEncode_9a6ad_B15 l G M)
    · refine s_iconst (v := 1) dJ1_canEncode_9a6ad_11 ci_1 ?_
      refine s_goto (tgt := 16) dJ1_canEncode_9a6ad_12 (by decide) ?_
      exact s_sub [] rfl (tJ1_canEncode_9a6ad_B16 l G (1 : Int32) M)
theorem dJ1_indexOfChar_4cfef_0 : decode cJ1_indexOfChar_4cfef 0 = .ok (.iload_n 1, 1) := by decide +kernel
theorem dJ1_indexOfChar_4cfef_1 : decode cJ1_indexOfChar_4cfef 1 = .ok (.i2b, 1) := by decide +kernel
theorem dJ1_indexOfChar_4cfef_2 : decode cJ1_indexOfChar_4cfef 2 = .ok (.istore 4, 2) := by decide +kernel
theorem dJ1_indexOfChar_4cfef_4 : decode cJ1_indexOfChar_4cfef 4 = .ok (.iload_n 2, 1) := by decide +kernel
theorem dJ1_indexOfChar_4cfef_5 : decode cJ1_indexOfChar_4cfef 5 = .ok (.istore 5, 2) := by decide +kernel
theorem dJ1_indexOfChar_4cfef_7 : decode cJ1_indexOfChar_4cfef 7 = .ok (.iload 5, 2) := by decide +kernel
theorem dJ1_indexOfChar_4cfef_9 : decode cJ1_indexOfChar_4cfef 9 = .ok (.iload_n 3, 1) := by decide +kernel
theorem dJ1_indexOfChar_4cfef_10 : decode cJ1_indexOfChar_4cfef 10 = .ok (.if_icmp .ge 21, 3) := by decide +kernel
theorem dJ1_indexOfChar_4cfef_13 : decode cJ1_indexOfChar_4cfef 13 = .ok (.aload_n 0, 1) := by decide +kernel
theorem dJ1_indexOfChar_4cfef_14 : decode cJ1_indexOfChar_4cfef 14 = .ok (.iload 5, 2) := by decide +kernel
theorem dJ1_indexOfChar_4cfef_16 : decode cJ1_indexOfChar_4cfef 16 = .ok (.baload, 1) := by decide +kernel
theorem dJ1_indexOfChar_4cfef_17 : decode cJ1_indexOfChar_4cfef 17 = .ok (.iload 4, 2) := by decide +kernel
theorem dJ1_indexOfChar_4cfef_19 : decode cJ1_indexOfChar_4cfef 19 = .ok (.if_icmp .ne 6, 3) := by decide +kernel
theorem dJ1_indexOfChar_4cfef_22 : decode cJ1_indexOfChar_4cfef 22 = .ok (.iload 5, 2) := by decide +kernel
theorem dJ1_indexOfChar_4cfef_24 : decode cJ1_indexOfChar_4cfef 24 = .ok (.ireturn, 1) := by decide +kernel
theorem dJ1_indexOfChar_4cfef_25 : decode cJ1_indexOfChar_4cfef 25 = .ok (.iinc 5 1, 3) := by decide +kernel
theorem dJ1_indexOfChar_4cfef_28 : decode cJ1_indexOfChar_4cfef 28 = .ok (.goto (-21), 3) := by decide +kernel
theorem dJ1_indexOfChar_4cfef_31 : decode cJ1_indexOfChar_4cfef 31 = .ok (.iconst (-1), 1) := by decide +kernel
theorem dJ1_indexOfChar_4cfef_32 : decode cJ1_indexOfChar_4cfef 32 = .ok (.ireturn, 1) := by decide +kernel
def fJ1_indexOfChar_4cfef_B31 (M : Mm) : Option (Int32 × Mm) :=
  some ((-1 : Int32), M)
theorem tJ1_indexOfChar_4cfef_B31 (l : Launch) (G : Gx) (M : Mm) : Sim cQi l layC G 1 cJ1_indexOfChar_4cfef RJ1 6 (some .int) 31 [] [] M (fJ1_indexOfChar_4cfef_B31 M) := by
  unfold fJ1_indexOfChar_4cfef_B31
  refine s_iconst (v := -1) dJ1_indexOfChar_4cfef_31 ci_m1 ?_
  exact s_iret rfl dJ1_indexOfChar_4cfef_32
def fJ1_indexOfChar_4cfef_B22 (v5 : Int32) (M : Mm) : Option (Int32 × Mm) :=
  some (v5, M)
theorem tJ1_indexOfChar_4cfef_B22 (l : Launch) (G : Gx) (v5 : Int32) (M : Mm) : Sim cQi l layC G 1 cJ1_indexOfChar_4cfef RJ1 6 (some .int) 22 [(5, .int v5)] [] M (fJ1_indexOfChar_4cfef_B22 v5 M) := by
  unfold fJ1_indexOfChar_4cfef_B22
  refine s_iload 0 dJ1_indexOfChar_4cfef_22 rfl ?_
  exact s_iret rfl dJ1_indexOfChar_4cfef_24
def fJ1_indexOfChar_4cfef_L7b (v4 : Int32) (v0 : Nat) (v3 : Int32) (q7 : Int32 → Mm → Option (Int32 × Mm)) (v5 : Int32) (M : Mm) : Option (Int32 × Mm) :=
  if v3 ≤ v5 then (fJ1_indexOfChar_4cfef_B31 M)
  else gd (decide (v0 < 2)) <|
  gd (inb v5 (sLen.getD v0 0)) <|
  if ((sByt.getD v0 []).getD (ix v5) 0) = v4 then (fJ1_indexOfChar_4cfef_B22 v5 M)
  else q7 (v5 + 1) M
def fJ1_indexOfChar_4cfef_L7 (v4 : Int32) (v0 : Nat) (v3 : Int32) : Nat → Int32 → Mm → Option (Int32 × Mm)
  | 0 => fun _ _ => none
  | n + 1 => fJ1_indexOfChar_4cfef_L7b v4 v0 v3 (fJ1_indexOfChar_4cfef_L7 v4 v0 v3 n)
theorem tJ1_indexOfChar_4cfef_L7b (l : Launch) (G : Gx) (v4 : Int32) (v0 : Nat) (v3 : Int32) (q7 : Int32 → Mm → Option (Int32 × Mm)) (hq7 : ∀ (v5 : Int32) (M : Mm), Sim cQi l layC G 1 cJ1_indexOfChar_4cfef RJ1 6 (some .int) 7 [(5, .int v5), (4, .int v4), (0, xf G (4 + v0)), (3, .int v3)] [] M (q7 v5 M)) (v5 : Int32) (M : Mm) : Sim cQi l layC G 1 cJ1_indexOfChar_4cfef RJ1 6 (some .int) 7 [(5, .int v5), (4, .int v4), (0, xf G (4 + v0)), (3, .int v3)] [] M (fJ1_indexOfChar_4cfef_L7b v4 v0 v3 q7 v5 M) := by
  unfold fJ1_indexOfChar_4cfef_L7b
  refine s_iload 0 dJ1_indexOfChar_4cfef_7 rfl ?_
  refine s_iload_n 3 dJ1_indexOfChar_4cfef_9 rfl rfl ?_
  refine s_icmpge (tgt := 31) dJ1_indexOfChar_4cfef_10 (by decide) ?_ ?_
  · exact s_sub [] rfl (tJ1_indexOfChar_4cfef_B31 l G M)
  · refine s_aload_n 2 dJ1_indexOfChar_4cfef_13 rfl rfl ?_
    refine s_iload 0 dJ1_indexOfChar_4cfef_14 rfl ?_
    refine s_gd fun h2 => ?_
    refine s_gd fun h3 => ?_
    refine s_bald h2 h3 dJ1_indexOfChar_4cfef_16 ?_
    refine s_iload 1 dJ1_indexOfChar_4cfef_17 rfl ?_
    refine s_icmpne (tgt := 25) dJ1_indexOfChar_4cfef_19 (by decide) ?_ ?_
    · refine s_iinc (k := 0) (lv' := [(5, .int (v5 + 1)), (4, .int v4), (0, xf G (4 + v0)), (3, .int v3)]) dJ1_indexOfChar_4cfef_25 rfl ci_1 rfl rfl ?_
      refine s_goto (tgt := 7) dJ1_indexOfChar_4cfef_28 (by decide) ?_
      exact s_sub [0, 1, 2, 3] rfl (hq7 (v5 + 1) M)
    · exact s_sub [0] rfl (tJ1_indexOfChar_4cfef_B22 l G v5 M)
theorem tJ1_indexOfChar_4cfef_L7 (l : Launch) (G : Gx) (v4 : Int32) (v0 : Nat) (v3 : Int32) : ∀ (n : Nat) (v5 : Int32) (M : Mm), Sim cQi l layC G 1 cJ1_indexOfChar_4cfef RJ1 6 (some .int) 7 [(5, .int v5), (4, .int v4), (0, xf G (4 + v0)), (3, .int v3)] [] M (fJ1_indexOfChar_4cfef_L7 v4 v0 v3 n v5 M)
  | 0, _, _ => s_none
  | n + 1, v5, M => tJ1_indexOfChar_4cfef_L7b l G v4 v0 v3 _ (tJ1_indexOfChar_4cfef_L7 l G v4 v0 v3 n) v5 M
def fJ1_indexOfChar_4cfef (a1 : Nat) (a2 : Int32) (a3 : Int32) (a4 : Int32) (M : Mm) : Option (Int32 × Mm) :=
  lt (a2.toInt8.toInt32) fun x1 =>
  fJ1_indexOfChar_4cfef_L7 x1 a1 a4 FU a3 M
theorem mJ1_indexOfChar_4cfef (l : Launch) (G : Gx) (a1 : Nat) (a2 : Int32) (a3 : Int32) (a4 : Int32) (M : Mm) : Mt cQi l layC G 1 yJ1_indexOfChar_4cfef cJ1_indexOfChar_4cfef 6 (some .int) [xf G (4 + a1), .int a2, .int a3, .int a4] M (fJ1_indexOfChar_4cfef a1 a2 a3 a4 M) := by
  refine Mt.of2 (own := RJ1) (lv := [(0, xf G (4 + a1)), (1, .int a2), (2, .int a3), (3, .int a4)]) rfl (by decide +kernel) rfl rfl ?_
  unfold fJ1_indexOfChar_4cfef
  refine s_iload_n 1 dJ1_indexOfChar_4cfef_0 rfl rfl ?_
  refine s_i2b dJ1_indexOfChar_4cfef_1 ?_
  refine s_leti fun x1 => ?_
  refine s_istore (lv' := [(4, .int x1), (0, xf G (4 + a1)), (1, .int a2), (2, .int a3), (3, .int a4)]) dJ1_indexOfChar_4cfef_2 rfl rfl ?_
  refine s_iload_n 3 dJ1_indexOfChar_4cfef_4 rfl rfl ?_
  refine s_istore (lv' := [(5, .int a3), (4, .int x1), (0, xf G (4 + a1)), (1, .int a2), (2, .int a3), (3, .int a4)]) dJ1_indexOfChar_4cfef_5 rfl rfl ?_
  exact s_sub [0, 1, 2, 5] rfl (tJ1_indexOfChar_4cfef_L7 l G x1 a1 a4 FU a3 M)
theorem dJ1_indexOf_4cfef_0 : decode cJ1_indexOf_4cfef 0 = .ok (.iload_n 1, 1) := by decide +kernel
theorem dJ1_indexOf_4cfef_1 : decode cJ1_indexOf_4cfef 1 = .ok (.invokestatic 88, 3) := by decide +kernel
theorem dJ1_indexOf_4cfef_4 : decode cJ1_indexOf_4cfef 4 = .ok (.ifCond .ne 5, 3) := by decide +kernel
theorem dJ1_indexOf_4cfef_7 : decode cJ1_indexOf_4cfef 7 = .ok (.iconst (-1), 1) := by decide +kernel
theorem dJ1_indexOf_4cfef_8 : decode cJ1_indexOf_4cfef 8 = .ok (.ireturn, 1) := by decide +kernel
theorem dJ1_indexOf_4cfef_9 : decode cJ1_indexOf_4cfef 9 = .ok (.iload_n 2, 1) := by decide +kernel
theorem dJ1_indexOf_4cfef_10 : decode cJ1_indexOf_4cfef 10 = .ok (.iconst 0, 1) := by decide +kernel
theorem dJ1_indexOf_4cfef_11 : decode cJ1_indexOf_4cfef 11 = .ok (.invokestatic 92, 3) := by decide +kernel
theorem dJ1_indexOf_4cfef_14 : decode cJ1_indexOf_4cfef 14 = .ok (.istore_n 2, 1) := by decide +kernel
theorem dJ1_indexOf_4cfef_15 : decode cJ1_indexOf_4cfef 15 = .ok (.iload_n 3, 1) := by decide +kernel
theorem dJ1_indexOf_4cfef_16 : decode cJ1_indexOf_4cfef 16 = .ok (.aload_n 0, 1) := by decide +kernel
theorem dJ1_indexOf_4cfef_17 : decode cJ1_indexOf_4cfef 17 = .ok (.arraylength, 1) := by decide +kernel
theorem dJ1_indexOf_4cfef_18 : decode cJ1_indexOf_4cfef 18 = .ok (.invokestatic 38, 3) := by decide +kernel
theorem dJ1_indexOf_4cfef_21 : decode cJ1_indexOf_4cfef 21 = .ok (.istore_n 3, 1) := by decide +kernel
theorem dJ1_indexOf_4cfef_22 : decode cJ1_indexOf_4cfef 22 = .ok (.iload_n 2, 1) := by decide +kernel
theorem dJ1_indexOf_4cfef_23 : decode cJ1_indexOf_4cfef 23 = .ok (.iload_n 3, 1) := by decide +kernel
theorem dJ1_indexOf_4cfef_24 : decode cJ1_indexOf_4cfef 24 = .ok (.if_icmp .lt 5, 3) := by decide +kernel
theorem dJ1_indexOf_4cfef_27 : decode cJ1_indexOf_4cfef 27 = .ok (.iconst (-1), 1) := by decide +kernel
theorem dJ1_indexOf_4cfef_28 : decode cJ1_indexOf_4cfef 28 = .ok (.ireturn, 1) := by decide +kernel
theorem dJ1_indexOf_4cfef_29 : decode cJ1_indexOf_4cfef 29 = .ok (.aload_n 0, 1) := by decide +kernel
theorem dJ1_indexOf_4cfef_30 : decode cJ1_indexOf_4cfef 30 = .ok (.iload_n 1, 1) := by decide +kernel
theorem dJ1_indexOf_4cfef_31 : decode cJ1_indexOf_4cfef 31 = .ok (.iload_n 2, 1) := by decide +kernel
theorem dJ1_indexOf_4cfef_32 : decode cJ1_indexOf_4cfef 32 = .ok (.iload_n 3, 1) := by decide +kernel
theorem dJ1_indexOf_4cfef_33 : decode cJ1_indexOf_4cfef 33 = .ok (.invokestatic 95, 3) := by decide +kernel
theorem dJ1_indexOf_4cfef_36 : decode cJ1_indexOf_4cfef 36 = .ok (.ireturn, 1) := by decide +kernel
def fJ1_indexOf_4cfef (a1 : Nat) (a2 : Int32) (a3 : Int32) (a4 : Int32) (M : Mm) : Option (Int32 × Mm) :=
  bd (fJ1_canEncode_9a6ad a2 M) fun r1 M2 =>
  if r1 = true then (lt ((if a3 < (0 : Int32) then (0 : Int32) else a3)) fun x3 =>
  gd (decide (a1 < 2)) <|
  lt ((if (Int32.ofNat (sLen.getD a1 0)) < a4 then (Int32.ofNat (sLen.getD a1 0)) else a4)) fun x5 =>
  if x3 < x5 then (bd (fJ1_indexOfChar_4cfef a1 a2 x3 x5 M2) fun r6 M7 =>
  some (r6, M7))
  else some ((-1 : Int32), M2))
  else some ((-1 : Int32), M2)
theorem mJ1_indexOf_4cfef (l : Launch) (G : Gx) (a1 : Nat) (a2 : Int32) (a3 : Int32) (a4 : Int32) (M : Mm) : Mt cQi l layC G 2 yJ1_indexOf_4cfef cJ1_indexOf_4cfef 4 (some .int) [xf G (4 + a1), .int a2, .int a3, .int a4] M (fJ1_indexOf_4cfef a1 a2 a3 a4 M) := by
  refine Mt.of2 (own := RJ1) (lv := [(0, xf G (4 + a1)), (1, .int a2), (2, .int a3), (3, .int a4)]) rfl (by decide +kernel) rfl rfl ?_
  unfold fJ1_indexOf_4cfef
  refine s_iload_n 1 dJ1_indexOf_4cfef_0 rfl rfl ?_
  refine s_call_z (s_runS (rest := []) (mJ1_canEncode_9a6ad l G a2 M) ok_J1_canEncode_9a6ad k_J1_88 rfl rfl rfl rfl dJ1_indexOf_4cfef_1) fun r1 M2 => ?_
  refine s_ifneB (tgt := 9) dJ1_indexOf_4cfef_4 (by decide) ?_ ?_
  · refine s_iload_n 2 dJ1_indexOf_4cfef_9 rfl rfl ?_
    refine s_iconst (v := 0) dJ1_indexOf_4cfef_10 ci_0 ?_
    refine s_max rfl rfl q_589 q_109 q_64 q_110 dJ1_indexOf_4cfef_11 ?_
    refine s_leti fun x3 => ?_
    refine s_istore_n (lv' := [(2, .int x3), (0, xf G (4 + a1)), (1, .int a2), (3, .int a4)]) dJ1_indexOf_4cfef_14 rfl rfl rfl ?_
    refine s_iload_n 3 dJ1_indexOf_4cfef_15 rfl rfl ?_
    refine s_aload_n 1 dJ1_indexOf_4cfef_16 rfl rfl ?_
    refine s_gd fun h4 => ?_
    refine s_blen h4 dJ1_indexOf_4cfef_17 ?_
    refine s_min rfl rfl q_590 q_411 q_64 q_412 dJ1_indexOf_4cfef_18 ?_
    refine s_leti fun x5 => ?_
    refine s_istore_n (lv' := [(3, .int x5), (2, .int x3), (0, xf G (4 + a1)), (1, .int a2)]) dJ1_indexOf_4cfef_21 rfl rfl rfl ?_
    refine s_iload_n 1 dJ1_indexOf_4cfef_22 rfl rfl ?_
    refine s_iload_n 0 dJ1_indexOf_4cfef_23 rfl rfl ?_
    refine s_icmplt (tgt := 29) dJ1_indexOf_4cfef_24 (by decide) ?_ ?_
    · refine s_aload_n 2 dJ1_indexOf_4cfef_29 rfl rfl ?_
      refine s_iload_n 3 dJ1_indexOf_4cfef_30 rfl rfl ?_
      refine s_iload_n 1 dJ1_indexOf_4cfef_31 rfl rfl ?_
      refine s_iload_n 0 dJ1_indexOf_4cfef_32 rfl rfl ?_
      refine s_call_i (s_runS (rest := []) (mJ1_indexOfChar_4cfef l G a1 a2 x3 x5 M2) ok_J1_indexOfChar_4cfef k_J1_95 rfl rfl rfl rfl dJ1_indexOf_4cfef_33) fun r6 M7 => ?_
      exact s_iret rfl dJ1_indexOf_4cfef_36
    · refine s_iconst (v := -1) dJ1_indexOf_4cfef_27 ci_m1 ?_
      exact s_iret rfl dJ1_indexOf_4cfef_28
  · refine s_iconst (v := -1) dJ1_indexOf_4cfef_7 ci_m1 ?_
    exact s_iret rfl dJ1_indexOf_4cfef_8
theorem dJ0_indexOf_7cf53_0 : decode cJ0_indexOf_7cf53 0 = .ok (.aload_n 0, 1) := by decide +kernel
theorem dJ0_indexOf_7cf53_1 : decode cJ0_indexOf_7cf53 1 = .ok (.invokevirtual 492, 3) := by decide +kernel
theorem dJ0_indexOf_7cf53_4 : decode cJ0_indexOf_7cf53 4 = .ok (.ifCond .eq 19, 3) := by decide +kernel
theorem dJ0_indexOf_7cf53_7 : decode cJ0_indexOf_7cf53 7 = .ok (.aload_n 0, 1) := by decide +kernel
theorem dJ0_indexOf_7cf53_8 : decode cJ0_indexOf_7cf53 8 = .ok (.getfield 9, 3) := by decide +kernel
theorem dJ0_indexOf_7cf53_11 : decode cJ0_indexOf_7cf53 11 = .ok (.iload_n 1, 1) := by decide +kernel
theorem dJ0_indexOf_7cf53_12 : decode cJ0_indexOf_7cf53 12 = .ok (.iload_n 2, 1) := by decide +kernel
theorem dJ0_indexOf_7cf53_13 : decode cJ0_indexOf_7cf53 13 = .ok (.aload_n 0, 1) := by decide +kernel
theorem dJ0_indexOf_7cf53_14 : decode cJ0_indexOf_7cf53 14 = .ok (.invokevirtual 505, 3) := by decide +kernel
theorem dJ0_indexOf_7cf53_17 : decode cJ0_indexOf_7cf53 17 = .ok (.invokestatic 637, 3) := by decide +kernel
theorem dJ0_indexOf_7cf53_20 : decode cJ0_indexOf_7cf53 20 = .ok (.goto 16, 3) := by decide +kernel
theorem dJ0_indexOf_7cf53_23 : decode cJ0_indexOf_7cf53 23 = .ok (.aload_n 0, 1) := by decide +kernel
theorem dJ0_indexOf_7cf53_24 : decode cJ0_indexOf_7cf53 24 = .ok (.getfield 9, 3) := by decide +kernel
theorem dJ0_indexOf_7cf53_27 : decode cJ0_indexOf_7cf53 27 = .ok (.iload_n 1, 1) := by decide +kernel
theorem dJ0_indexOf_7cf53_28 : decode cJ0_indexOf_7cf53 28 = .ok (.iload_n 2, 1) := by decide +kernel
theorem dJ0_indexOf_7cf53_29 : decode cJ0_indexOf_7cf53 29 = .ok (.aload_n 0, 1) := by decide +kernel
theorem dJ0_indexOf_7cf53_30 : decode cJ0_indexOf_7cf53 30 = .ok (.invokevirtual 505, 3) := by decide +kernel
theorem dJ0_indexOf_7cf53_33 : decode cJ0_indexOf_7cf53 33 = .ok (.invokestatic 640, 3) := by decide +kernel
theorem dJ0_indexOf_7cf53_36 : decode cJ0_indexOf_7cf53 36 = .ok (.ireturn, 1) := by decide +kernel
def fJ0_indexOf_7cf53_B36 (w0 : Int32) (M : Mm) : Option (Int32 × Mm) :=
  some (w0, M)
theorem tJ0_indexOf_7cf53_B36 (l : Launch) (G : Gx) (w0 : Int32) (M : Mm) : Sim cQi l layC G 3 cJ0_indexOf_7cf53 RJ0 3 (some .int) 36 [] [.int w0] M (fJ0_indexOf_7cf53_B36 w0 M) := by
  unfold fJ0_indexOf_7cf53_B36
  exact s_iret rfl dJ0_indexOf_7cf53_36
def fJ0_indexOf_7cf53 (u0 : Nat) (a1 : Int32) (a2 : Int32) (M : Mm) : Option (Int32 × Mm) :=
  gd (decide (u0 < 2)) <|
  bd (fJ0_isLatin1_aae02 u0 M) fun r2 M3 =>
  if r2 = true then (bd (fJ0_length_8abf5 u0 M3) fun r4 M5 =>
  bd (fJ1_indexOf_4cfef u0 a1 a2 r4 M5) fun r6 M7 =>
  fJ0_indexOf_7cf53_B36 r6 M7)
  else bd (fJ0_length_8abf5 u0 M3) fun r8 M9 =>
  none
theorem mJ0_indexOf_7cf53 (l : Launch) (G : Gx) (u0 : Nat) (a1 : Int32) (a2 : Int32) (M : Mm) : Mt cQi l layC G 3 yJ0_indexOf_7cf53 cJ0_indexOf_7cf53 3 (some .int) [xf G (2 + u0), .int a1, .int a2] M (fJ0_indexOf_7cf53 u0 a1 a2 M) := by
  refine Mt.of2 (own := RJ0) (lv := [(0, xf G (2 + u0)), (1, .int a1), (2, .int a2)]) rfl (by decide +kernel) rfl rfl ?_
  unfold fJ0_indexOf_7cf53
  refine s_aload_n 0 dJ0_indexOf_7cf53_0 rfl rfl ?_
  refine s_gd fun h1 => ?_
  refine s_call_z (s_runVS (rest := []) h1 (mJ0_isLatin1_aae02 l G u0 M) ok_J0_isLatin1_aae02 k_J0_492 rfl rfl rfl rfl dJ0_indexOf_7cf53_1) fun r2 M3 => ?_
  refine s_ifeqB (tgt := 23) dJ0_indexOf_7cf53_4 (by decide) ?_ ?_
  · refine s_aload_n 0 dJ0_indexOf_7cf53_23 rfl rfl ?_
    refine s_strv h1 q_1445 dJ0_indexOf_7cf53_24 ?_
    refine s_iload_n 1 dJ0_indexOf_7cf53_27 rfl rfl ?_
    refine s_iload_n 2 dJ0_indexOf_7cf53_28 rfl rfl ?_
    refine s_aload_n 0 dJ0_indexOf_7cf53_29 rfl rfl ?_
    refine s_call_i (s_runVS (rest := [.int a2, .int a1, xf G (4 + u0)]) h1 (mJ0_length_8abf5 l G u0 M3) ok_J0_length_8abf5 k_J0_505 rfl rfl rfl rfl dJ0_indexOf_7cf53_30) fun r8 M9 => ?_
    exact s_none
  · refine s_aload_n 0 dJ0_indexOf_7cf53_7 rfl rfl ?_
    refine s_strv h1 q_1445 dJ0_indexOf_7cf53_8 ?_
    refine s_iload_n 1 dJ0_indexOf_7cf53_11 rfl rfl ?_
    refine s_iload_n 2 dJ0_indexOf_7cf53_12 rfl rfl ?_
    refine s_aload_n 0 dJ0_indexOf_7cf53_13 rfl rfl ?_
    refine s_call_i (s_runVS (rest := [.int a2, .int a1, xf G (4 + u0)]) h1 (mJ0_length_8abf5 l G u0 M3) ok_J0_length_8abf5 k_J0_505 rfl rfl rfl rfl dJ0_indexOf_7cf53_14) fun r4 M5 => ?_
    refine s_call_i (s_runS (rest := []) (mJ1_indexOf_4cfef l G u0 a1 a2 r4 M5) ok_J1_indexOf_4cfef k_J0_637 rfl rfl rfl rfl dJ0_indexOf_7cf53_17) fun r6 M7 => ?_
    refine s_goto (tgt := 36) dJ0_indexOf_7cf53_20 (by decide) ?_
    exact s_sub [] rfl (tJ0_indexOf_7cf53_B36 l G r6 M7)
theorem dJ0_indexOf_0f7a4_0 : decode cJ0_indexOf_0f7a4 0 = .ok (.aload_n 0, 1) := by decide +kernel
theorem dJ0_indexOf_0f7a4_1 : decode cJ0_indexOf_0f7a4 1 = .ok (.iload_n 1, 1) := by decide +kernel
theorem dJ0_indexOf_0f7a4_2 : decode cJ0_indexOf_0f7a4 2 = .ok (.iconst 0, 1) := by decide +kernel
theorem dJ0_indexOf_0f7a4_3 : decode cJ0_indexOf_0f7a4 3 = .ok (.invokevirtual 633, 3) := by decide +kernel
theorem dJ0_indexOf_0f7a4_6 : decode cJ0_indexOf_0f7a4 6 = .ok (.ireturn, 1) := by decide +kernel
def fJ0_indexOf_0f7a4 (u0 : Nat) (a1 : Int32) (M : Mm) : Option (Int32 × Mm) :=
  gd (decide (u0 < 2)) <|
  bd (fJ0_indexOf_7cf53 u0 a1 (0 : Int32) M) fun r2 M3 =>
  some (r2, M3)
theorem mJ0_indexOf_0f7a4 (l : Launch) (G : Gx) (u0 : Nat) (a1 : Int32) (M : Mm) : Mt cQi l layC G 4 yJ0_indexOf_0f7a4 cJ0_indexOf_0f7a4 2 (some .int) [xf G (2 + u0), .int a1] M (fJ0_indexOf_0f7a4 u0 a1 M) := by
  refine Mt.of2 (own := RJ0) (lv := [(0, xf G (2 + u0)), (1, .int a1)]) rfl (by decide +kernel) rfl rfl ?_
  unfold fJ0_indexOf_0f7a4
  refine s_aload_n 0 dJ0_indexOf_0f7a4_0 rfl rfl ?_
  refine s_iload_n 1 dJ0_indexOf_0f7a4_1 rfl rfl ?_
  refine s_iconst (v := 0) dJ0_indexOf_0f7a4_2 ci_0 ?_
  refine s_gd fun h1 => ?_
  refine s_call_i (s_runVS (rest := []) h1 (mJ0_indexOf_7cf53 l G u0 a1 (0 : Int32) M) ok_J0_indexOf_7cf53 k_J0_633 rfl rfl rfl rfl dJ0_indexOf_0f7a4_3) fun r2 M3 => ?_
  exact s_iret rfl dJ0_indexOf_0f7a4_6
theorem dX2_readLevel_0 : decode cX2_readLevel 0 = .ok (.iload_n 1, 1) := by decide +kernel
theorem dX2_readLevel_1 : decode cX2_readLevel 1 = .ok (.iconst 5, 1) := by decide +kernel
theorem dX2_readLevel_2 : decode cX2_readLevel 2 = .ok (.if_icmp .lt 10, 3) := by decide +kernel
theorem dX2_readLevel_5 : decode cX2_readLevel 5 = .ok (.aload_n 0, 1) := by decide +kernel
theorem dX2_readLevel_6 : decode cX2_readLevel 6 = .ok (.aload_n 2, 1) := by decide +kernel
theorem dX2_readLevel_7 : decode cX2_readLevel 7 = .ok (.iload_n 3, 1) := by decide +kernel
theorem dX2_readLevel_8 : decode cX2_readLevel 8 = .ok (.invokevirtual 37, 3) := by decide +kernel
theorem dX2_readLevel_11 : decode cX2_readLevel 11 = .ok (.ireturn, 1) := by decide +kernel
theorem dX2_readLevel_12 : decode cX2_readLevel 12 = .ok (.aload_n 0, 1) := by decide +kernel
theorem dX2_readLevel_13 : decode cX2_readLevel 13 = .ok (.iload_n 1, 1) := by decide +kernel
theorem dX2_readLevel_14 : decode cX2_readLevel 14 = .ok (.iconst 1, 1) := by decide +kernel
theorem dX2_readLevel_15 : decode cX2_readLevel 15 = .ok (.iadd, 1) := by decide +kernel
theorem dX2_readLevel_16 : decode cX2_readLevel 16 = .ok (.aload_n 2, 1) := by decide +kernel
theorem dX2_readLevel_17 : decode cX2_readLevel 17 = .ok (.iload_n 3, 1) := by decide +kernel
theorem dX2_readLevel_18 : decode cX2_readLevel 18 = .ok (.invokevirtual 30, 3) := by decide +kernel
theorem dX2_readLevel_21 : decode cX2_readLevel 21 = .ok (.istore 4, 2) := by decide +kernel
theorem dX2_readLevel_23 : decode cX2_readLevel 23 = .ok (.iconst 0, 1) := by decide +kernel
theorem dX2_readLevel_24 : decode cX2_readLevel 24 = .ok (.istore 5, 2) := by decide +kernel
theorem dX2_readLevel_26 : decode cX2_readLevel 26 = .ok (.iload 4, 2) := by decide +kernel
theorem dX2_readLevel_28 : decode cX2_readLevel 28 = .ok (.ifCond .eq 71, 3) := by decide +kernel
theorem dX2_readLevel_31 : decode cX2_readLevel 31 = .ok (.iload 5, 2) := by decide +kernel
theorem dX2_readLevel_33 : decode cX2_readLevel 33 = .ok (.bipush 60, 2) := by decide +kernel
theorem dX2_readLevel_35 : decode cX2_readLevel 35 = .ok (.if_icmp .ge 64, 3) := by decide +kernel
theorem dX2_readLevel_38 : decode cX2_readLevel 38 = .ok (.aload_n 0, 1) := by decide +kernel
theorem dX2_readLevel_39 : decode cX2_readLevel 39 = .ok (.iload_n 1, 1) := by decide +kernel
theorem dX2_readLevel_40 : decode cX2_readLevel 40 = .ok (.iload 5, 2) := by decide +kernel
theorem dX2_readLevel_42 : decode cX2_readLevel 42 = .ok (.invokevirtual 41, 3) := by decide +kernel
theorem dX2_readLevel_45 : decode cX2_readLevel 45 = .ok (.ifCond .eq 54, 3) := by decide +kernel
theorem dX2_readLevel_48 : decode cX2_readLevel 48 = .ok (.aload_n 0, 1) := by decide +kernel
theorem dX2_readLevel_49 : decode cX2_readLevel 49 = .ok (.getfield 20, 3) := by decide +kernel
theorem dX2_readLevel_52 : decode cX2_readLevel 52 = .ok (.aload_n 0, 1) := by decide +kernel
theorem dX2_readLevel_53 : decode cX2_readLevel 53 = .ok (.getfield 26, 3) := by decide +kernel
theorem dX2_readLevel_56 : decode cX2_readLevel 56 = .ok (.invokevirtual 45, 3) := by decide +kernel
theorem dX2_readLevel_59 : decode cX2_readLevel 59 = .ok (.istore 6, 2) := by decide +kernel
theorem dX2_readLevel_61 : decode cX2_readLevel 61 = .ok (.aload_n 0, 1) := by decide +kernel
theorem dX2_readLevel_62 : decode cX2_readLevel 62 = .ok (.dup, 1) := by decide +kernel
theorem dX2_readLevel_63 : decode cX2_readLevel 63 = .ok (.getfield 26, 3) := by decide +kernel
theorem dX2_readLevel_66 : decode cX2_readLevel 66 = .ok (.iconst 1, 1) := by decide +kernel
theorem dX2_readLevel_67 : decode cX2_readLevel 67 = .ok (.iadd, 1) := by decide +kernel
theorem dX2_readLevel_68 : decode cX2_readLevel 68 = .ok (.putfield 26, 3) := by decide +kernel
theorem dX2_readLevel_71 : decode cX2_readLevel 71 = .ok (.aload_n 0, 1) := by decide +kernel
theorem dX2_readLevel_72 : decode cX2_readLevel 72 = .ok (.iload_n 1, 1) := by decide +kernel
theorem dX2_readLevel_73 : decode cX2_readLevel 73 = .ok (.iconst 1, 1) := by decide +kernel
theorem dX2_readLevel_74 : decode cX2_readLevel 74 = .ok (.iadd, 1) := by decide +kernel
theorem dX2_readLevel_75 : decode cX2_readLevel 75 = .ok (.aload_n 2, 1) := by decide +kernel
theorem dX2_readLevel_76 : decode cX2_readLevel 76 = .ok (.iload_n 3, 1) := by decide +kernel
theorem dX2_readLevel_77 : decode cX2_readLevel 77 = .ok (.invokevirtual 30, 3) := by decide +kernel
theorem dX2_readLevel_80 : decode cX2_readLevel 80 = .ok (.istore 4, 2) := by decide +kernel
theorem dX2_readLevel_82 : decode cX2_readLevel 82 = .ok (.aload_n 0, 1) := by decide +kernel
theorem dX2_readLevel_83 : decode cX2_readLevel 83 = .ok (.getfield 14, 3) := by decide +kernel
theorem dX2_readLevel_86 : decode cX2_readLevel 86 = .ok (.iload 6, 2) := by decide +kernel
theorem dX2_readLevel_88 : decode cX2_readLevel 88 = .ok (.ineg, 1) := by decide +kernel
theorem dX2_readLevel_89 : decode cX2_readLevel 89 = .ok (.invokevirtual 48, 3) := by decide +kernel
theorem dX2_readLevel_92 : decode cX2_readLevel 92 = .ok (.pop, 1) := by decide +kernel
theorem dX2_readLevel_93 : decode cX2_readLevel 93 = .ok (.iinc 5 1, 3) := by decide +kernel
theorem dX2_readLevel_96 : decode cX2_readLevel 96 = .ok (.goto (-70), 3) := by decide +kernel
theorem dX2_readLevel_99 : decode cX2_readLevel 99 = .ok (.iload 4, 2) := by decide +kernel
theorem dX2_readLevel_101 : decode cX2_readLevel 101 = .ok (.ireturn, 1) := by decide +kernel
def fX2_readLevel_B99 (zX2_readLevel : Int32 → Nat → Int32 → Mm → Option (Bool × Mm)) (zX2_readPart : Nat → Int32 → Mm → Option (Bool × Mm)) (zX2_readOpened : Int32 → Nat → Int32 → Mm → Option (Bool × Mm)) (v4 : Int32) (M : Mm) : Option (Bool × Mm) :=
  gd (isb v4) (some (decide (v4 = 1), M))
theorem tX2_readLevel_B99 (l : Launch) (G : Gx) (zX2_readLevel : Int32 → Nat → Int32 → Mm → Option (Bool × Mm)) (zX2_readPart : Nat → Int32 → Mm → Option (Bool × Mm)) (zX2_readOpened : Int32 → Nat → Int32 → Mm → Option (Bool × Mm)) (lev lev1 : Nat) (hlev : Nat.ble (lev1 + 1) lev = true) (hbase : 5 ≤ lev) (hzX2_readLevel : ∀ (a1 : Int32) (a2 : Nat) (a3 : Int32) (M : Mm), Mt cQz l layC G lev1 yX2_readLevel cX2_readLevel 7 (some .boolean) [rf G 153, .int a1, xf G (2 + a2), .int a3] M (zX2_readLevel a1 a2 a3 M)) (hzX2_readPart : ∀ (a1 : Nat) (a2 : Int32) (M : Mm), Mt cQz l layC G lev1 yX2_readPart cX2_readPart 5 (some .boolean) [rf G 153, xf G (2 + a1), .int a2] M (zX2_readPart a1 a2 M)) (hzX2_readOpened : ∀ (a1 : Int32) (a2 : Nat) (a3 : Int32) (M : Mm), Mt cQz l layC G lev1 yX2_readOpened cX2_readOpened 5 (some .boolean) [rf G 153, .int a1, xf G (2 + a2), .int a3] M (zX2_readOpened a1 a2 a3 M)) (v4 : Int32) (M : Mm) : Sim cQz l layC G lev cX2_readLevel RX2 7 (some .boolean) 99 [(4, .int v4)] [] M (fX2_readLevel_B99 zX2_readLevel zX2_readPart zX2_readOpened v4 M) := by
  unfold fX2_readLevel_B99
  refine s_iload 0 dX2_readLevel_99 rfl ?_
  exact s_zretI rfl dX2_readLevel_101
def fX2_readLevel_L26b (zX2_readLevel : Int32 → Nat → Int32 → Mm → Option (Bool × Mm)) (zX2_readPart : Nat → Int32 → Mm → Option (Bool × Mm)) (zX2_readOpened : Int32 → Nat → Int32 → Mm → Option (Bool × Mm)) (v1 : Int32) (v2 : Nat) (v3 : Int32) (q26 : Int32 → Int32 → Mm → Option (Bool × Mm)) (v5 : Int32) (v4 : Int32) (M : Mm) : Option (Bool × Mm) :=
  if v4 = 0 then (fX2_readLevel_B99 zX2_readLevel zX2_readPart zX2_readOpened v4 M)
  else if (60 : Int32) ≤ v5 then (fX2_readLevel_B99 zX2_readLevel zX2_readPart zX2_readOpened v4 M)
  else bd (fX2_isJoining v1 v5 M) fun r3 M4 =>
  if r3 = true then (bd (fX5_at 64 (M4 153 2) M4) fun r5 M6 =>
  lt (wr M6 153 2 ((M6 153 2) + (1 : Int32))) fun M7 =>
  bd (zX2_readLevel (v1 + (1 : Int32)) v2 v3 M7) fun r8 M9 =>
  bd (fX5_add 154 (-r5) M9) fun r10 M11 =>
  q26 (v5 + 1) (bi r8) M11)
  else fX2_readLevel_B99 zX2_readLevel zX2_readPart zX2_readOpened v4 M4
def fX2_readLevel_L26 (zX2_readLevel : Int32 → Nat → Int32 → Mm → Option (Bool × Mm)) (zX2_readPart : Nat → Int32 → Mm → Option (Bool × Mm)) (zX2_readOpened : Int32 → Nat → Int32 → Mm → Option (Bool × Mm)) (v1 : Int32) (v2 : Nat) (v3 : Int32) : Nat → Int32 → Int32 → Mm → Option (Bool × Mm)
  | 0 => fun _ _ _ => none
  | n + 1 => fX2_readLevel_L26b zX2_readLevel zX2_readPart zX2_readOpened v1 v2 v3 (fX2_readLevel_L26 zX2_readLevel zX2_readPart zX2_readOpened v1 v2 v3 n)
theorem tX2_readLevel_L26b (l : Launch) (G : Gx) (zX2_readLevel : Int32 → Nat → Int32 → Mm → Option (Bool × Mm)) (zX2_readPart : Nat → Int32 → Mm → Option (Bool × Mm)) (zX2_readOpened : Int32 → Nat → Int32 → Mm → Option (Bool × Mm)) (lev lev1 : Nat) (hlev : Nat.ble (lev1 + 1) lev = true) (hbase : 5 ≤ lev) (hzX2_readLevel : ∀ (a1 : Int32) (a2 : Nat) (a3 : Int32) (M : Mm), Mt cQz l layC G lev1 yX2_readLevel cX2_readLevel 7 (some .boolean) [rf G 153, .int a1, xf G (2 + a2), .int a3] M (zX2_readLevel a1 a2 a3 M)) (hzX2_readPart : ∀ (a1 : Nat) (a2 : Int32) (M : Mm), Mt cQz l layC G lev1 yX2_readPart cX2_readPart 5 (some .boolean) [rf G 153, xf G (2 + a1), .int a2] M (zX2_readPart a1 a2 M)) (hzX2_readOpened : ∀ (a1 : Int32) (a2 : Nat) (a3 : Int32) (M : Mm), Mt cQz l layC G lev1 yX2_readOpened cX2_readOpened 5 (some .boolean) [rf G 153, .int a1, xf G (2 + a2), .int a3] M (zX2_readOpened a1 a2 a3 M)) (v1 : Int32) (v2 : Nat) (v3 : Int32) (q26 : Int32 → Int32 → Mm → Option (Bool × Mm)) (hq26 : ∀ (v5 : Int32) (v4 : Int32) (M : Mm), Sim cQz l layC G lev cX2_readLevel RX2 7 (some .boolean) 26 [(5, .int v5), (4, .int v4), (0, rf G 153), (1, .int v1), (2, xf G (2 + v2)), (3, .int v3)] [] M (q26 v5 v4 M)) (v5 : Int32) (v4 : Int32) (M : Mm) : Sim cQz l layC G lev cX2_readLevel RX2 7 (some .boolean) 26 [(5, .int v5), (4, .int v4), (0, rf G 153), (1, .int v1), (2, xf G (2 + v2)), (3, .int v3)] [] M (fX2_readLevel_L26b zX2_readLevel zX2_readPart zX2_readOpened v1 v2 v3 q26 v5 v4 M) := by
  unfold fX2_readLevel_L26b
  refine s_iload 1 dX2_readLevel_26 rfl ?_
  refine s_ifeq (tgt := 99) dX2_readLevel_28 (by decide) ?_ ?_
  · exact s_sub [1] rfl (tX2_readLevel_B99 l G zX2_readLevel zX2_readPart zX2_readOpened lev lev1 hlev hbase hzX2_readLevel hzX2_readPart hzX2_readOpened v4 M)
  · refine s_iload 0 dX2_readLevel_31 rfl ?_
    refine s_bipush (v := 60) dX2_readLevel_33 cb_60 ?_
    refine s_icmpge (tgt := 99) dX2_readLevel_35 (by decide) ?_ ?_
    · exact s_sub [1] rfl (tX2_readLevel_B99 l G zX2_readLevel zX2_readPart zX2_readOpened lev lev1 hlev hbase hzX2_readLevel hzX2_readPart hzX2_readOpened v4 M)
    · refine s_aload_n 2 dX2_readLevel_38 rfl rfl ?_
      refine s_iload_n 3 dX2_readLevel_39 rfl rfl ?_
      refine s_iload 0 dX2_readLevel_40 rfl ?_
      refine s_call_z (s_runV (ci := 2) (rest := []) rfl rfl (mX2_isJoining l G v1 v5 M) ok_X2_isJoining k_X2_41 (ble_of hbase rfl) rfl rfl rfl dX2_readLevel_42) fun r3 M4 => ?_
      refine s_ifeqB (tgt := 99) dX2_readLevel_45 (by decide) ?_ ?_
      · exact s_sub [1] rfl (tX2_readLevel_B99 l G zX2_readLevel zX2_readPart zX2_readOpened lev lev1 hlev hbase hzX2_readLevel hzX2_readPart hzX2_readOpened v4 M4)
      · refine s_aload_n 2 dX2_readLevel_48 rfl rfl ?_
        refine g_X2_20 (q := 64) rfl rfl dX2_readLevel_49 ?_
        refine s_aload_n 2 dX2_readLevel_52 rfl rfl ?_
        refine g_X2_26 rfl dX2_readLevel_53 ?_
        refine s_call_i (s_runV (ci := 5) (rest := []) rfl rfl (mX5_at l G 64 (M4 153 2) M4) ok_X5_at k_X2_45 (ble_of hbase rfl) rfl rfl rfl dX2_readLevel_56) fun r5 M6 => ?_
        refine s_istore (lv' := [(6, .int r5), (5, .int v5), (4, .int v4), (0, rf G 153), (1, .int v1), (2, xf G (2 + v2)), (3, .int v3)]) dX2_readLevel_59 rfl rfl ?_
        refine s_aload_n 3 dX2_readLevel_61 rfl rfl ?_
        refine s_dup dX2_readLevel_62 rfl ?_
        refine g_X2_26 rfl dX2_readLevel_63 ?_
        refine s_iconst (v := 1) dX2_readLevel_66 ci_1 ?_
        refine s_iadd dX2_readLevel_67 ?_
        refine p_X2_26 rfl dX2_readLevel_68 ?_
        refine s_letM fun M7 => ?_
        refine s_aload_n 3 dX2_readLevel_71 rfl rfl ?_
        refine s_iload_n 4 dX2_readLevel_72 rfl rfl ?_
        refine s_iconst (v := 1) dX2_readLevel_73 ci_1 ?_
        refine s_iadd dX2_readLevel_74 ?_
        refine s_aload_n 5 dX2_readLevel_75 rfl rfl ?_
        refine s_iload_n 6 dX2_readLevel_76 rfl rfl ?_
        refine s_call_z (s_runV (ci := 2) (rest := []) rfl rfl (hzX2_readLevel (v1 + (1 : Int32)) v2 v3 M7) ok_X2_readLevel k_X2_30 hlev rfl rfl rfl dX2_readLevel_77) fun r8 M9 => ?_
        refine s_istore (lv' := [(4, .int (bi r8)), (6, .int r5), (5, .int v5), (0, rf G 153), (1, .int v1), (2, xf G (2 + v2)), (3, .int v3)]) dX2_readLevel_80 rfl rfl ?_
        refine s_aload_n 3 dX2_readLevel_82 rfl rfl ?_
        refine g_X2_14 (q := 154) rfl rfl dX2_readLevel_83 ?_
        refine s_iload 1 dX2_readLevel_86 rfl ?_
        refine s_ineg dX2_readLevel_88 ?_
        refine s_call_z (s_runV (ci := 5) (rest := []) rfl rfl (mX5_add l G 154 (-r5) M9) ok_X5_add k_X2_48 (ble_of hbase rfl) rfl rfl rfl dX2_readLevel_89) fun r10 M11 => ?_
        refine s_pop dX2_readLevel_92 rfl ?_
        refine s_iinc (k := 2) (lv' := [(5, .int (v5 + 1)), (4, .int (bi r8)), (6, .int r5), (0, rf G 153), (1, .int v1), (2, xf G (2 + v2)), (3, .int v3)]) dX2_readLevel_93 rfl ci_1 rfl rfl ?_
        refine s_goto (tgt := 26) dX2_readLevel_96 (by decide) ?_
        exact s_sub [0, 1, 3, 4, 5, 6] rfl (hq26 (v5 + 1) (bi r8) M11)
theorem tX2_readLevel_L26 (l : Launch) (G : Gx) (zX2_readLevel : Int32 → Nat → Int32 → Mm → Option (Bool × Mm)) (zX2_readPart : Nat → Int32 → Mm → Option (Bool × Mm)) (zX2_readOpened : Int32 → Nat → Int32 → Mm → Option (Bool × Mm)) (lev lev1 : Nat) (hlev : Nat.ble (lev1 + 1) lev = true) (hbase : 5 ≤ lev) (hzX2_readLevel : ∀ (a1 : Int32) (a2 : Nat) (a3 : Int32) (M : Mm), Mt cQz l layC G lev1 yX2_readLevel cX2_readLevel 7 (some .boolean) [rf G 153, .int a1, xf G (2 + a2), .int a3] M (zX2_readLevel a1 a2 a3 M)) (hzX2_readPart : ∀ (a1 : Nat) (a2 : Int32) (M : Mm), Mt cQz l layC G lev1 yX2_readPart cX2_readPart 5 (some .boolean) [rf G 153, xf G (2 + a1), .int a2] M (zX2_readPart a1 a2 M)) (hzX2_readOpened : ∀ (a1 : Int32) (a2 : Nat) (a3 : Int32) (M : Mm), Mt cQz l layC G lev1 yX2_readOpened cX2_readOpened 5 (some .boolean) [rf G 153, .int a1, xf G (2 + a2), .int a3] M (zX2_readOpened a1 a2 a3 M)) (v1 : Int32) (v2 : Nat) (v3 : Int32) : ∀ (n : Nat) (v5 : Int32) (v4 : Int32) (M : Mm), Sim cQz l layC G lev cX2_readLevel RX2 7 (some .boolean) 26 [(5, .int v5), (4, .int v4), (0, rf G 153), (1, .int v1), (2, xf G (2 + v2)), (3, .int v3)] [] M (fX2_readLevel_L26 zX2_readLevel zX2_readPart zX2_readOpened v1 v2 v3 n v5 v4 M)
  | 0, _, _, _ => s_none
  | n + 1, v5, v4, M => tX2_readLevel_L26b l G zX2_readLevel zX2_readPart zX2_readOpened lev lev1 hlev hbase hzX2_readLevel hzX2_readPart hzX2_readOpened v1 v2 v3 _ (tX2_readLevel_L26 l G zX2_readLevel zX2_readPart zX2_readOpened lev lev1 hlev hbase hzX2_readLevel hzX2_readPart hzX2_readOpened v1 v2 v3 n) v5 v4 M
def fX2_readLevel_b (zX2_readLevel : Int32 → Nat → Int32 → Mm → Option (Bool × Mm)) (zX2_readPart : Nat → Int32 → Mm → Option (Bool × Mm)) (zX2_readOpened : Int32 → Nat → Int32 → Mm → Option (Bool × Mm)) (a1 : Int32) (a2 : Nat) (a3 : Int32) (M : Mm) : Option (Bool × Mm) :=
  if a1 < (5 : Int32) then (bd (zX2_readLevel (a1 + (1 : Int32)) a2 a3 M) fun r1 M2 =>
  fX2_readLevel_L26 zX2_readLevel zX2_readPart zX2_readOpened a1 a2 a3 FU (0 : Int32) (bi r1) M2)
  else bd (zX2_readPart a2 a3 M) fun r12 M13 =>
  some (r12, M13)
theorem mX2_readLevel_b (l : Launch) (G : Gx) (zX2_readLevel : Int32 → Nat → Int32 → Mm → Option (Bool × Mm)) (zX2_readPart : Nat → Int32 → Mm → Option (Bool × Mm)) (zX2_readOpened : Int32 → Nat → Int32 → Mm → Option (Bool × Mm)) (lev lev1 : Nat) (hlev : Nat.ble (lev1 + 1) lev = true) (hbase : 5 ≤ lev) (hzX2_readLevel : ∀ (a1 : Int32) (a2 : Nat) (a3 : Int32) (M : Mm), Mt cQz l layC G lev1 yX2_readLevel cX2_readLevel 7 (some .boolean) [rf G 153, .int a1, xf G (2 + a2), .int a3] M (zX2_readLevel a1 a2 a3 M)) (hzX2_readPart : ∀ (a1 : Nat) (a2 : Int32) (M : Mm), Mt cQz l layC G lev1 yX2_readPart cX2_readPart 5 (some .boolean) [rf G 153, xf G (2 + a1), .int a2] M (zX2_readPart a1 a2 M)) (hzX2_readOpened : ∀ (a1 : Int32) (a2 : Nat) (a3 : Int32) (M : Mm), Mt cQz l layC G lev1 yX2_readOpened cX2_readOpened 5 (some .boolean) [rf G 153, .int a1, xf G (2 + a2), .int a3] M (zX2_readOpened a1 a2 a3 M)) (a1 : Int32) (a2 : Nat) (a3 : Int32) (M : Mm) : Mt cQz l layC G lev yX2_readLevel cX2_readLevel 7 (some .boolean) [rf G 153, .int a1, xf G (2 + a2), .int a3] M (fX2_readLevel_b zX2_readLevel zX2_readPart zX2_readOpened a1 a2 a3 M) := by
  refine Mt.of2 (own := RX2) (lv := [(0, rf G 153), (1, .int a1), (2, xf G (2 + a2)), (3, .int a3)]) rfl (by decide +kernel) rfl rfl ?_
  unfold fX2_readLevel_b
  refine s_iload_n 1 dX2_readLevel_0 rfl rfl ?_
  refine s_iconst (v := 5) dX2_readLevel_1 ci_5 ?_
  refine s_icmplt (tgt := 12) dX2_readLevel_2 (by decide) ?_ ?_
  · refine s_aload_n 0 dX2_readLevel_12 rfl rfl ?_
    refine s_iload_n 1 dX2_readLevel_13 rfl rfl ?_
    refine s_iconst (v := 1) dX2_readLevel_14 ci_1 ?_
    refine s_iadd dX2_readLevel_15 ?_
    refine s_aload_n 2 dX2_readLevel_16 rfl rfl ?_
    refine s_iload_n 3 dX2_readLevel_17 rfl rfl ?_
    refine s_call_z (s_runV (ci := 2) (rest := []) rfl rfl (hzX2_readLevel (a1 + (1 : Int32)) a2 a3 M) ok_X2_readLevel k_X2_30 hlev rfl rfl rfl dX2_readLevel_18) fun r1 M2 => ?_
    refine s_istore (lv' := [(4, .int (bi r1)), (0, rf G 153), (1, .int a1), (2, xf G (2 + a2)), (3, .int a3)]) dX2_readLevel_21 rfl rfl ?_
    refine s_iconst (v := 0) dX2_readLevel_23 ci_0 ?_
    refine s_istore (lv' := [(5, .int (0 : Int32)), (4, .int (bi r1)), (0, rf G 153), (1, .int a1), (2, xf G (2 + a2)), (3, .int a3)]) dX2_readLevel_24 rfl rfl ?_
    exact s_sub [0, 1, 2, 3, 4, 5] rfl (tX2_readLevel_L26 l G zX2_readLevel zX2_readPart zX2_readOpened lev lev1 hlev hbase hzX2_readLevel hzX2_readPart hzX2_readOpened a1 a2 a3 FU (0 : Int32) (bi r1) M2)
  · refine s_aload_n 0 dX2_readLevel_5 rfl rfl ?_
    refine s_aload_n 2 dX2_readLevel_6 rfl rfl ?_
    refine s_iload_n 3 dX2_readLevel_7 rfl rfl ?_
    refine s_call_z (s_runV (ci := 2) (rest := []) rfl rfl (hzX2_readPart a2 a3 M) ok_X2_readPart k_X2_37 hlev rfl rfl rfl dX2_readLevel_8) fun r12 M13 => ?_
    exact s_zretB rfl dX2_readLevel_11
theorem dX2_readPart_0 : decode cX2_readPart 0 = .ok (.aload_n 0, 1) := by decide +kernel
theorem dX2_readPart_1 : decode cX2_readPart 1 = .ok (.getfield 20, 3) := by decide +kernel
theorem dX2_readPart_4 : decode cX2_readPart 4 = .ok (.aload_n 0, 1) := by decide +kernel
theorem dX2_readPart_5 : decode cX2_readPart 5 = .ok (.getfield 26, 3) := by decide +kernel
theorem dX2_readPart_8 : decode cX2_readPart 8 = .ok (.invokevirtual 45, 3) := by decide +kernel
theorem dX2_readPart_11 : decode cX2_readPart 11 = .ok (.istore_n 3, 1) := by decide +kernel
theorem dX2_readPart_12 : decode cX2_readPart 12 = .ok (.iload_n 3, 1) := by decide +kernel
theorem dX2_readPart_13 : decode cX2_readPart 13 = .ok (.invokestatic 56, 3) := by decide +kernel
theorem dX2_readPart_16 : decode cX2_readPart 16 = .ok (.ifCond .eq 9, 3) := by decide +kernel
theorem dX2_readPart_19 : decode cX2_readPart 19 = .ok (.aload_n 0, 1) := by decide +kernel
theorem dX2_readPart_20 : decode cX2_readPart 20 = .ok (.invokevirtual 59, 3) := by decide +kernel
theorem dX2_readPart_23 : decode cX2_readPart 23 = .ok (.iconst 1, 1) := by decide +kernel
theorem dX2_readPart_24 : decode cX2_readPart 24 = .ok (.ireturn, 1) := by decide +kernel
theorem dX2_readPart_25 : decode cX2_readPart 25 = .ok (.iload_n 3, 1) := by decide +kernel
theorem dX2_readPart_26 : decode cX2_readPart 26 = .ok (.bipush 33, 2) := by decide +kernel
theorem dX2_readPart_28 : decode cX2_readPart 28 = .ok (.if_icmp .eq 9, 3) := by decide +kernel
theorem dX2_readPart_31 : decode cX2_readPart 31 = .ok (.iload_n 3, 1) := by decide +kernel
theorem dX2_readPart_32 : decode cX2_readPart 32 = .ok (.bipush 40, 2) := by decide +kernel
theorem dX2_readPart_34 : decode cX2_readPart 34 = .ok (.if_icmp .ne 26, 3) := by decide +kernel
theorem dX2_readPart_37 : decode cX2_readPart 37 = .ok (.iload_n 2, 1) := by decide +kernel
theorem dX2_readPart_38 : decode cX2_readPart 38 = .ok (.iconst 5, 1) := by decide +kernel
theorem dX2_readPart_39 : decode cX2_readPart 39 = .ok (.if_icmp .ge 19, 3) := by decide +kernel
theorem dX2_readPart_42 : decode cX2_readPart 42 = .ok (.aload_n 0, 1) := by decide +kernel
theorem dX2_readPart_43 : decode cX2_readPart 43 = .ok (.iload_n 3, 1) := by decide +kernel
theorem dX2_readPart_44 : decode cX2_readPart 44 = .ok (.aload_n 1, 1) := by decide +kernel
theorem dX2_readPart_45 : decode cX2_readPart 45 = .ok (.iload_n 2, 1) := by decide +kernel
theorem dX2_readPart_46 : decode cX2_readPart 46 = .ok (.iconst 1, 1) := by decide +kernel
theorem dX2_readPart_47 : decode cX2_readPart 47 = .ok (.iadd, 1) := by decide +kernel
theorem dX2_readPart_48 : decode cX2_readPart 48 = .ok (.invokevirtual 62, 3) := by decide +kernel
theorem dX2_readPart_51 : decode cX2_readPart 51 = .ok (.ifCond .eq 7, 3) := by decide +kernel
theorem dX2_readPart_54 : decode cX2_readPart 54 = .ok (.iconst 1, 1) := by decide +kernel
theorem dX2_readPart_55 : decode cX2_readPart 55 = .ok (.goto 4, 3) := by decide +kernel
theorem dX2_readPart_58 : decode cX2_readPart 58 = .ok (.iconst 0, 1) := by decide +kernel
theorem dX2_readPart_59 : decode cX2_readPart 59 = .ok (.ireturn, 1) := by decide +kernel
theorem dX2_readPart_60 : decode cX2_readPart 60 = .ok (.aload_n 0, 1) := by decide +kernel
theorem dX2_readPart_61 : decode cX2_readPart 61 = .ok (.getfield 26, 3) := by decide +kernel
theorem dX2_readPart_64 : decode cX2_readPart 64 = .ok (.aload_n 0, 1) := by decide +kernel
theorem dX2_readPart_65 : decode cX2_readPart 65 = .ok (.getfield 20, 3) := by decide +kernel
theorem dX2_readPart_68 : decode cX2_readPart 68 = .ok (.getfield 34, 3) := by decide +kernel
theorem dX2_readPart_71 : decode cX2_readPart 71 = .ok (.if_icmp .ge 12, 3) := by decide +kernel
theorem dX2_readPart_74 : decode cX2_readPart 74 = .ok (.aload_n 1, 1) := by decide +kernel
theorem dX2_readPart_75 : decode cX2_readPart 75 = .ok (.iload_n 3, 1) := by decide +kernel
theorem dX2_readPart_76 : decode cX2_readPart 76 = .ok (.i2c, 1) := by decide +kernel
theorem dX2_readPart_77 : decode cX2_readPart 77 = .ok (.invokevirtual 65, 3) := by decide +kernel
theorem dX2_readPart_80 : decode cX2_readPart 80 = .ok (.goto 4, 3) := by decide +kernel
theorem dX2_readPart_83 : decode cX2_readPart 83 = .ok (.iconst (-1), 1) := by decide +kernel
theorem dX2_readPart_84 : decode cX2_readPart 84 = .ok (.istore 4, 2) := by decide +kernel
theorem dX2_readPart_86 : decode cX2_readPart 86 = .ok (.iload 4, 2) := by decide +kernel
theorem dX2_readPart_88 : decode cX2_readPart 88 = .ok (.ifCond .ge 5, 3) := by decide +kernel
theorem dX2_readPart_91 : decode cX2_readPart 91 = .ok (.iconst 0, 1) := by decide +kernel
theorem dX2_readPart_92 : decode cX2_readPart 92 = .ok (.ireturn, 1) := by decide +kernel
theorem dX2_readPart_93 : decode cX2_readPart 93 = .ok (.aload_n 0, 1) := by decide +kernel
theorem dX2_readPart_94 : decode cX2_readPart 94 = .ok (.getfield 14, 3) := by decide +kernel
theorem dX2_readPart_97 : decode cX2_readPart 97 = .ok (.iconst (-1), 1) := by decide +kernel
theorem dX2_readPart_98 : decode cX2_readPart 98 = .ok (.iload 4, 2) := by decide +kernel
theorem dX2_readPart_100 : decode cX2_readPart 100 = .ok (.isub, 1) := by decide +kernel
theorem dX2_readPart_101 : decode cX2_readPart 101 = .ok (.invokevirtual 48, 3) := by decide +kernel
theorem dX2_readPart_104 : decode cX2_readPart 104 = .ok (.pop, 1) := by decide +kernel
theorem dX2_readPart_105 : decode cX2_readPart 105 = .ok (.aload_n 0, 1) := by decide +kernel
theorem dX2_readPart_106 : decode cX2_readPart 106 = .ok (.dup, 1) := by decide +kernel
theorem dX2_readPart_107 : decode cX2_readPart 107 = .ok (.getfield 26, 3) := by decide +kernel
theorem dX2_readPart_110 : decode cX2_readPart 110 = .ok (.iconst 1, 1) := by decide +kernel
theorem dX2_readPart_111 : decode cX2_readPart 111 = .ok (.iadd, 1) := by decide +kernel
theorem dX2_readPart_112 : decode cX2_readPart 112 = .ok (.putfield 26, 3) := by decide +kernel
theorem dX2_readPart_115 : decode cX2_readPart 115 = .ok (.iconst 1, 1) := by decide +kernel
theorem dX2_readPart_116 : decode cX2_readPart 116 = .ok (.ireturn, 1) := by decide +kernel
def fX2_readPart_B59 (zX2_readLevel : Int32 → Nat → Int32 → Mm → Option (Bool × Mm)) (zX2_readPart : Nat → Int32 → Mm → Option (Bool × Mm)) (zX2_readOpened : Int32 → Nat → Int32 → Mm → Option (Bool × Mm)) (w0 : Int32) (M : Mm) : Option (Bool × Mm) :=
  gd (isb w0) (some (decide (w0 = 1), M))
theorem tX2_readPart_B59 (l : Launch) (G : Gx) (zX2_readLevel : Int32 → Nat → Int32 → Mm → Option (Bool × Mm)) (zX2_readPart : Nat → Int32 → Mm → Option (Bool × Mm)) (zX2_readOpened : Int32 → Nat → Int32 → Mm → Option (Bool × Mm)) (lev lev1 : Nat) (hlev : Nat.ble (lev1 + 1) lev = true) (hbase : 5 ≤ lev) (hzX2_readLevel : ∀ (a1 : Int32) (a2 : Nat) (a3 : Int32) (M : Mm), Mt cQz l layC G lev1 yX2_readLevel cX2_readLevel 7 (some .boolean) [rf G 153, .int a1, xf G (2 + a2), .int a3] M (zX2_readLevel a1 a2 a3 M)) (hzX2_readPart : ∀ (a1 : Nat) (a2 : Int32) (M : Mm), Mt cQz l layC G lev1 yX2_readPart cX2_readPart 5 (some .boolean) [rf G 153, xf G (2 + a1), .int a2] M (zX2_readPart a1 a2 M)) (hzX2_readOpened : ∀ (a1 : Int32) (a2 : Nat) (a3 : Int32) (M : Mm), Mt cQz l layC G lev1 yX2_readOpened cX2_readOpened 5 (some .boolean) [rf G 153, .int a1, xf G (2 + a2), .int a3] M (zX2_readOpened a1 a2 a3 M)) (w0 : Int32) (M : Mm) : Sim cQz l layC G lev cX2_readPart RX2 5 (some .boolean) 59 [] [.int w0] M (fX2_readPart_B59 zX2_readLevel zX2_readPart zX2_readOpened w0 M) := by
  unfold fX2_readPart_B59
  exact s_zretI rfl dX2_readPart_59
def fX2_readPart_B58 (zX2_readLevel : Int32 → Nat → Int32 → Mm → Option (Bool × Mm)) (zX2_readPart : Nat → Int32 → Mm → Option (Bool × Mm)) (zX2_readOpened : Int32 → Nat → Int32 → Mm → Option (Bool × Mm)) (M : Mm) : Option (Bool × Mm) :=
  fX2_readPart_B59 zX2_readLevel zX2_readPart zX2_readOpened (0 : Int32) M
theorem tX2_readPart_B58 (l : Launch) (G : Gx) (zX2_readLevel : Int32 → Nat → Int32 → Mm → Option (Bool × Mm)) (zX2_readPart : Nat → Int32 → Mm → Option (Bool × Mm)) (zX2_readOpened : Int32 → Nat → Int32 → Mm → Option (Bool × Mm)) (lev lev1 : Nat) (hlev : Nat.ble (lev1 + 1) lev = true) (hbase : 5 ≤ lev) (hzX2_readLevel : ∀ (a1 : Int32) (a2 : Nat) (a3 : Int32) (M : Mm), Mt cQz l layC G lev1 yX2_readLevel cX2_readLevel 7 (some .boolean) [rf G 153, .int a1, xf G (2 + a2), .int a3] M (zX2_readLevel a1 a2 a3 M)) (hzX2_readPart : ∀ (a1 : Nat) (a2 : Int32) (M : Mm), Mt cQz l layC G lev1 yX2_readPart cX2_readPart 5 (some .boolean) [rf G 153, xf G (2 + a1), .int a2] M (zX2_readPart a1 a2 M)) (hzX2_readOpened : ∀ (a1 : Int32) (a2 : Nat) (a3 : Int32) (M : Mm), Mt cQz l layC G lev1 yX2_readOpened cX2_readOpened 5 (some .boolean) [rf G 153, .int a1, xf G (2 + a2), .int a3] M (zX2_readOpened a1 a2 a3 M)) (M : Mm) : Sim cQz l layC G lev cX2_readPart RX2 5 (some .boolean) 58 [] [] M (fX2_readPart_B58 zX2_readLevel zX2_readPart zX2_readOpened M) := by
  unfold fX2_readPart_B58
  refine s_iconst (v := 0) dX2_readPart_58 ci_0 ?_
  exact s_sub [] rfl (tX2_readPart_B59 l G zX2_readLevel zX2_readPart zX2_readOpened lev lev1 hlev hbase hzX2_readLevel hzX2_readPart hzX2_readOpened (0 : Int32) M)
def fX2_readPart_B37 (zX2_readLevel : Int32 → Nat → Int32 → Mm → Option (Bool × Mm)) (zX2_readPart : Nat → Int32 → Mm → Option (Bool × Mm)) (zX2_readOpened : Int32 → Nat → Int32 → Mm → Option (Bool × Mm)) (v3 : Int32) (v1 : Nat) (v2 : Int32) (M : Mm) : Option (Bool × Mm) :=
  if (5 : Int32) ≤ v2 then (fX2_readPart_B58 zX2_readLevel zX2_readPart zX2_readOpened M)
  else bd (zX2_readOpened v3 v1 (v2 + (1 : Int32)) M) fun r7 M8 =>
  if r7 = true then (fX2_readPart_B59 zX2_readLevel zX2_readPart zX2_readOpened (1 : Int32) M8)
  else fX2_readPart_B58 zX2_readLevel zX2_readPart zX2_readOpened M8
theorem tX2_readPart_B37 (l : Launch) (G : Gx) (zX2_readLevel : Int32 → Nat → Int32 → Mm → Option (Bool × Mm)) (zX2_readPart : Nat → Int32 → Mm → Option (Bool × Mm)) (zX2_readOpened : Int32 → Nat → Int32 → Mm → Option (Bool × Mm)) (lev lev1 : Nat) (hlev : Nat.ble (lev1 + 1) lev = true) (hbase : 5 ≤ lev) (hzX2_readLevel : ∀ (a1 : Int32) (a2 : Nat) (a3 : Int32) (M : Mm), Mt cQz l layC G lev1 yX2_readLevel cX2_readLevel 7 (some .boolean) [rf G 153, .int a1, xf G (2 + a2), .int a3] M (zX2_readLevel a1 a2 a3 M)) (hzX2_readPart : ∀ (a1 : Nat) (a2 : Int32) (M : Mm), Mt cQz l layC G lev1 yX2_readPart cX2_readPart 5 (some .boolean) [rf G 153, xf G (2 + a1), .int a2] M (zX2_readPart a1 a2 M)) (hzX2_readOpened : ∀ (a1 : Int32) (a2 : Nat) (a3 : Int32) (M : Mm), Mt cQz l layC G lev1 yX2_readOpened cX2_readOpened 5 (some .boolean) [rf G 153, .int a1, xf G (2 + a2), .int a3] M (zX2_readOpened a1 a2 a3 M)) (v3 : Int32) (v1 : Nat) (v2 : Int32) (M : Mm) : Sim cQz l layC G lev cX2_readPart RX2 5 (some .boolean) 37 [(3, .int v3), (0, rf G 153), (1, xf G (2 + v1)), (2, .int v2)] [] M (fX2_readPart_B37 zX2_readLevel zX2_readPart zX2_readOpened v3 v1 v2 M) := by
  unfold fX2_readPart_B37
  refine s_iload_n 3 dX2_readPart_37 rfl rfl ?_
  refine s_iconst (v := 5) dX2_readPart_38 ci_5 ?_
  refine s_icmpge (tgt := 58) dX2_readPart_39 (by decide) ?_ ?_
  · exact s_sub [] rfl (tX2_readPart_B58 l G zX2_readLevel zX2_readPart zX2_readOpened lev lev1 hlev hbase hzX2_readLevel hzX2_readPart hzX2_readOpened M)
  · refine s_aload_n 1 dX2_readPart_42 rfl rfl ?_
    refine s_iload_n 0 dX2_readPart_43 rfl rfl ?_
    refine s_aload_n 2 dX2_readPart_44 rfl rfl ?_
    refine s_iload_n 3 dX2_readPart_45 rfl rfl ?_
    refine s_iconst (v := 1) dX2_readPart_46 ci_1 ?_
    refine s_iadd dX2_readPart_47 ?_
    refine s_call_z (s_runV (ci := 2) (rest := []) rfl rfl (hzX2_readOpened v3 v1 (v2 + (1 : Int32)) M) ok_X2_readOpened k_X2_62 hlev rfl rfl rfl dX2_readPart_48) fun r7 M8 => ?_
    refine s_ifeqB (tgt := 58) dX2_readPart_51 (by decide) ?_ ?_
    · exact s_sub [] rfl (tX2_readPart_B58 l G zX2_readLevel zX2_readPart zX2_readOpened lev lev1 hlev hbase hzX2_readLevel hzX2_readPart hzX2_readOpened M8)
    · refine s_iconst (v := 1) dX2_readPart_54 ci_1 ?_
      refine s_goto (tgt := 59) dX2_readPart_55 (by decide) ?_
      exact s_sub [] rfl (tX2_readPart_B59 l G zX2_readLevel zX2_readPart zX2_readOpened lev lev1 hlev hbase hzX2_readLevel hzX2_readPart hzX2_readOpened (1 : Int32) M8)
def fX2_readPart_B84 (zX2_readLevel : Int32 → Nat → Int32 → Mm → Option (Bool × Mm)) (zX2_readPart : Nat → Int32 → Mm → Option (Bool × Mm)) (zX2_readOpened : Int32 → Nat → Int32 → Mm → Option (Bool × Mm)) (w0 : Int32) (M : Mm) : Option (Bool × Mm) :=
  if 0 ≤ w0 then (bd (fX5_add 154 ((-1 : Int32) - w0) M) fun r9 M10 =>
  lt (wr M10 153 2 ((M10 153 2) + (1 : Int32))) fun M11 =>
  some (true, M11))
  else some (false, M)
theorem tX2_readPart_B84 (l : Launch) (G : Gx) (zX2_readLevel : Int32 → Nat → Int32 → Mm → Option (Bool × Mm)) (zX2_readPart : Nat → Int32 → Mm → Option (Bool × Mm)) (zX2_readOpened : Int32 → Nat → Int32 → Mm → Option (Bool × Mm)) (lev lev1 : Nat) (hlev : Nat.ble (lev1 + 1) lev = true) (hbase : 5 ≤ lev) (hzX2_readLevel : ∀ (a1 : Int32) (a2 : Nat) (a3 : Int32) (M : Mm), Mt cQz l layC G lev1 yX2_readLevel cX2_readLevel 7 (some .boolean) [rf G 153, .int a1, xf G (2 + a2), .int a3] M (zX2_readLevel a1 a2 a3 M)) (hzX2_readPart : ∀ (a1 : Nat) (a2 : Int32) (M : Mm), Mt cQz l layC G lev1 yX2_readPart cX2_readPart 5 (some .boolean) [rf G 153, xf G (2 + a1), .int a2] M (zX2_readPart a1 a2 M)) (hzX2_readOpened : ∀ (a1 : Int32) (a2 : Nat) (a3 : Int32) (M : Mm), Mt cQz l layC G lev1 yX2_readOpened cX2_readOpened 5 (some .boolean) [rf G 153, .int a1, xf G (2 + a2), .int a3] M (zX2_readOpened a1 a2 a3 M)) (w0 : Int32) (M : Mm) : Sim cQz l layC G lev cX2_readPart RX2 5 (some .boolean) 84 [(0, rf G 153)] [.int w0] M (fX2_readPart_B84 zX2_readLevel zX2_readPart zX2_readOpened w0 M) := by
  unfold fX2_readPart_B84
  refine s_istore (lv' := [(4, .int w0), (0, rf G 153)]) dX2_readPart_84 rfl rfl ?_
  refine s_iload 0 dX2_readPart_86 rfl ?_
  refine s_ifge (tgt := 93) dX2_readPart_88 (by decide) ?_ ?_
  · refine s_aload_n 1 dX2_readPart_93 rfl rfl ?_
    refine g_X2_14 (q := 154) rfl rfl dX2_readPart_94 ?_
    refine s_iconst (v := -1) dX2_readPart_97 ci_m1 ?_
    refine s_iload 0 dX2_readPart_98 rfl ?_
    refine s_isub dX2_readPart_100 ?_
    refine s_call_z (s_runV (ci := 5) (rest := []) rfl rfl (mX5_add l G 154 ((-1 : Int32) - w0) M) ok_X5_add k_X2_48 (ble_of hbase rfl) rfl rfl rfl dX2_readPart_101) fun r9 M10 => ?_
    refine s_pop dX2_readPart_104 rfl ?_
    refine s_aload_n 1 dX2_readPart_105 rfl rfl ?_
    refine s_dup dX2_readPart_106 rfl ?_
    refine g_X2_26 rfl dX2_readPart_107 ?_
    refine s_iconst (v := 1) dX2_readPart_110 ci_1 ?_
    refine s_iadd dX2_readPart_111 ?_
    refine p_X2_26 rfl dX2_readPart_112 ?_
    refine s_letM fun M11 => ?_
    refine s_iconst (v := 1) dX2_readPart_115 ci_1 ?_
    exact s_zret1 rfl dX2_readPart_116
  · refine s_iconst (v := 0) dX2_readPart_91 ci_0 ?_
    exact s_zret0 rfl dX2_readPart_92
def fX2_readPart_b (zX2_readLevel : Int32 → Nat → Int32 → Mm → Option (Bool × Mm)) (zX2_readPart : Nat → Int32 → Mm → Option (Bool × Mm)) (zX2_readOpened : Int32 → Nat → Int32 → Mm → Option (Bool × Mm)) (a1 : Nat) (a2 : Int32) (M : Mm) : Option (Bool × Mm) :=
  bd (fX5_at 64 (M 153 2) M) fun r1 M2 =>
  bd (fX2_isDigit r1 M2) fun r3 M4 =>
  if r3 = true then (bd (fX2_readNumber M4) fun r5 M6 =>
  some (true, M6))
  else if r1 = (33 : Int32) then (fX2_readPart_B37 zX2_readLevel zX2_readPart zX2_readOpened r1 a1 a2 M4)
  else if r1 = (40 : Int32) then (fX2_readPart_B37 zX2_readLevel zX2_readPart zX2_readOpened r1 a1 a2 M4)
  else if (M4 64 1) ≤ (M4 153 2) then (fX2_readPart_B84 zX2_readLevel zX2_readPart zX2_readOpened (-1 : Int32) M4)
  else gd (decide (a1 < 2)) <|
  bd (fJ0_indexOf_0f7a4 a1 ((r1.toUInt32 % 65536).toInt32) M4) fun r13 M14 =>
  fX2_readPart_B84 zX2_readLevel zX2_readPart zX2_readOpened r13 M14
theorem mX2_readPart_b (l : Launch) (G : Gx) (zX2_readLevel : Int32 → Nat → Int32 → Mm → Option (Bool × Mm)) (zX2_readPart : Nat → Int32 → Mm → Option (Bool × Mm)) (zX2_readOpened : Int32 → Nat → Int32 → Mm → Option (Bool × Mm)) (lev lev1 : Nat) (hlev : Nat.ble (lev1 + 1) lev = true) (hbase : 5 ≤ lev) (hzX2_readLevel : ∀ (a1 : Int32) (a2 : Nat) (a3 : Int32) (M : Mm), Mt cQz l layC G lev1 yX2_readLevel cX2_readLevel 7 (some .boolean) [rf G 153, .int a1, xf G (2 + a2), .int a3] M (zX2_readLevel a1 a2 a3 M)) (hzX2_readPart : ∀ (a1 : Nat) (a2 : Int32) (M : Mm), Mt cQz l layC G lev1 yX2_readPart cX2_readPart 5 (some .boolean) [rf G 153, xf G (2 + a1), .int a2] M (zX2_readPart a1 a2 M)) (hzX2_readOpened : ∀ (a1 : Int32) (a2 : Nat) (a3 : Int32) (M : Mm), Mt cQz l layC G lev1 yX2_readOpened cX2_readOpened 5 (some .boolean) [rf G 153, .int a1, xf G (2 + a2), .int a3] M (zX2_readOpened a1 a2 a3 M)) (a1 : Nat) (a2 : Int32) (M : Mm) : Mt cQz l layC G lev yX2_readPart cX2_readPart 5 (some .boolean) [rf G 153, xf G (2 + a1), .int a2] M (fX2_readPart_b zX2_readLevel zX2_readPart zX2_readOpened a1 a2 M) := by
  refine Mt.of2 (own := RX2) (lv := [(0, rf G 153), (1, xf G (2 + a1)), (2, .int a2)]) rfl (by decide +kernel) rfl rfl ?_
  unfold fX2_readPart_b
  refine s_aload_n 0 dX2_readPart_0 rfl rfl ?_
  refine g_X2_20 (q := 64) rfl rfl dX2_readPart_1 ?_
  refine s_aload_n 0 dX2_readPart_4 rfl rfl ?_
  refine g_X2_26 rfl dX2_readPart_5 ?_
  refine s_call_i (s_runV (ci := 5) (rest := []) rfl rfl (mX5_at l G 64 (M 153 2) M) ok_X5_at k_X2_45 (ble_of hbase rfl) rfl rfl rfl dX2_readPart_8) fun r1 M2 => ?_
  refine s_istore_n (lv' := [(3, .int r1), (0, rf G 153), (1, xf G (2 + a1)), (2, .int a2)]) dX2_readPart_11 rfl rfl rfl ?_
  refine s_iload_n 0 dX2_readPart_12 rfl rfl ?_
  refine s_call_z (s_runS (rest := []) (mX2_isDigit l G r1 M2) ok_X2_isDigit k_X2_56 (ble_of hbase rfl) rfl rfl rfl dX2_readPart_13) fun r3 M4 => ?_
  refine s_ifeqB (tgt := 25) dX2_readPart_16 (by decide) ?_ ?_
  · refine s_iload_n 0 dX2_readPart_25 rfl rfl ?_
    refine s_bipush (v := 33) dX2_readPart_26 cb_33 ?_
    refine s_icmpeq (tgt := 37) dX2_readPart_28 (by decide) ?_ ?_
    · exact s_sub [0, 1, 2, 3] rfl (tX2_readPart_B37 l G zX2_readLevel zX2_readPart zX2_readOpened lev lev1 hlev hbase hzX2_readLevel hzX2_readPart hzX2_readOpened r1 a1 a2 M4)
    · refine s_iload_n 0 dX2_readPart_31 rfl rfl ?_
      refine s_bipush (v := 40) dX2_readPart_32 cb_40 ?_
      refine s_icmpne (tgt := 60) dX2_readPart_34 (by decide) ?_ ?_
      · refine s_aload_n 1 dX2_readPart_60 rfl rfl ?_
        refine g_X2_26 rfl dX2_readPart_61 ?_
        refine s_aload_n 1 dX2_readPart_64 rfl rfl ?_
        refine g_X2_20 (q := 64) rfl rfl dX2_readPart_65 ?_
        refine g_X2_34 rfl dX2_readPart_68 ?_
        refine s_icmpge (tgt := 83) dX2_readPart_71 (by decide) ?_ ?_
        · refine s_iconst (v := -1) dX2_readPart_83 ci_m1 ?_
          exact s_sub [1] rfl (tX2_readPart_B84 l G zX2_readLevel zX2_readPart zX2_readOpened lev lev1 hlev hbase hzX2_readLevel hzX2_readPart hzX2_readOpened (-1 : Int32) M4)
        · refine s_aload_n 2 dX2_readPart_74 rfl rfl ?_
          refine s_iload_n 0 dX2_readPart_75 rfl rfl ?_
          refine s_i2c dX2_readPart_76 ?_
          refine s_gd fun h12 => ?_
          refine s_call_i (s_runVS (rest := []) h12 (mJ0_indexOf_0f7a4 l G a1 ((r1.toUInt32 % 65536).toInt32) M4) ok_J0_indexOf_0f7a4 k_X2_65 (ble_of hbase rfl) rfl rfl rfl dX2_readPart_77) fun r13 M14 => ?_
          refine s_goto (tgt := 84) dX2_readPart_80 (by decide) ?_
          exact s_sub [1] rfl (tX2_readPart_B84 l G zX2_readLevel zX2_readPart zX2_readOpened lev lev1 hlev hbase hzX2_readLevel hzX2_readPart hzX2_readOpened r13 M14)
      · exact s_sub [0, 1, 2, 3] rfl (tX2_readPart_B37 l G zX2_readLevel zX2_readPart zX2_readOpened lev lev1 hlev hbase hzX2_readLevel hzX2_readPart hzX2_readOpened r1 a1 a2 M4)
  · refine s_aload_n 1 dX2_readPart_19 rfl rfl ?_
    refine s_call_v (s_runV (ci := 2) (rest := []) rfl rfl (mX2_readNumber l G M4) ok_X2_readNumber k_X2_59 (ble_of hbase rfl) rfl rfl rfl dX2_readPart_20) fun r5 M6 => ?_
    refine s_iconst (v := 1) dX2_readPart_23 ci_1 ?_
    exact s_zret1 rfl dX2_readPart_24
theorem dX2_readOpened_0 : decode cX2_readOpened 0 = .ok (.aload_n 0, 1) := by decide +kernel
theorem dX2_readOpened_1 : decode cX2_readOpened 1 = .ok (.dup, 1) := by decide +kernel
theorem dX2_readOpened_2 : decode cX2_readOpened 2 = .ok (.getfield 26, 3) := by decide +kernel
theorem dX2_readOpened_5 : decode cX2_readOpened 5 = .ok (.iconst 1, 1) := by decide +kernel
theorem dX2_readOpened_6 : decode cX2_readOpened 6 = .ok (.iadd, 1) := by decide +kernel
theorem dX2_readOpened_7 : decode cX2_readOpened 7 = .ok (.putfield 26, 3) := by decide +kernel
theorem dX2_readOpened_10 : decode cX2_readOpened 10 = .ok (.iload_n 1, 1) := by decide +kernel
theorem dX2_readOpened_11 : decode cX2_readOpened 11 = .ok (.bipush 33, 2) := by decide +kernel
theorem dX2_readOpened_13 : decode cX2_readOpened 13 = .ok (.if_icmp .ne 24, 3) := by decide +kernel
theorem dX2_readOpened_16 : decode cX2_readOpened 16 = .ok (.aload_n 0, 1) := by decide +kernel
theorem dX2_readOpened_17 : decode cX2_readOpened 17 = .ok (.aload_n 2, 1) := by decide +kernel
theorem dX2_readOpened_18 : decode cX2_readOpened 18 = .ok (.iload_n 3, 1) := by decide +kernel
theorem dX2_readOpened_19 : decode cX2_readOpened 19 = .ok (.invokevirtual 37, 3) := by decide +kernel
theorem dX2_readOpened_22 : decode cX2_readOpened 22 = .ok (.istore 4, 2) := by decide +kernel
theorem dX2_readOpened_24 : decode cX2_readOpened 24 = .ok (.aload_n 0, 1) := by decide +kernel
theorem dX2_readOpened_25 : decode cX2_readOpened 25 = .ok (.getfield 14, 3) := by decide +kernel
theorem dX2_readOpened_28 : decode cX2_readOpened 28 = .ok (.bipush (-33), 2) := by decide +kernel
theorem dX2_readOpened_30 : decode cX2_readOpened 30 = .ok (.invokevirtual 48, 3) := by decide +kernel
theorem dX2_readOpened_33 : decode cX2_readOpened 33 = .ok (.pop, 1) := by decide +kernel
theorem dX2_readOpened_34 : decode cX2_readOpened 34 = .ok (.iload 4, 2) := by decide +kernel
theorem dX2_readOpened_36 : decode cX2_readOpened 36 = .ok (.ireturn, 1) := by decide +kernel
theorem dX2_readOpened_37 : decode cX2_readOpened 37 = .ok (.aload_n 0, 1) := by decide +kernel
theorem dX2_readOpened_38 : decode cX2_readOpened 38 = .ok (.iconst 0, 1) := by decide +kernel
theorem dX2_readOpened_39 : decode cX2_readOpened 39 = .ok (.aload_n 2, 1) := by decide +kernel
theorem dX2_readOpened_40 : decode cX2_readOpened 40 = .ok (.iload_n 3, 1) := by decide +kernel
theorem dX2_readOpened_41 : decode cX2_readOpened 41 = .ok (.invokevirtual 30, 3) := by decide +kernel
theorem dX2_readOpened_44 : decode cX2_readOpened 44 = .ok (.ifCond .eq 19, 3) := by decide +kernel
theorem dX2_readOpened_47 : decode cX2_readOpened 47 = .ok (.aload_n 0, 1) := by decide +kernel
theorem dX2_readOpened_48 : decode cX2_readOpened 48 = .ok (.getfield 20, 3) := by decide +kernel
theorem dX2_readOpened_51 : decode cX2_readOpened 51 = .ok (.aload_n 0, 1) := by decide +kernel
theorem dX2_readOpened_52 : decode cX2_readOpened 52 = .ok (.getfield 26, 3) := by decide +kernel
theorem dX2_readOpened_55 : decode cX2_readOpened 55 = .ok (.invokevirtual 45, 3) := by decide +kernel
theorem dX2_readOpened_58 : decode cX2_readOpened 58 = .ok (.bipush 41, 2) := by decide +kernel
theorem dX2_readOpened_60 : decode cX2_readOpened 60 = .ok (.if_icmp .eq 5, 3) := by decide +kernel
theorem dX2_readOpened_63 : decode cX2_readOpened 63 = .ok (.iconst 0, 1) := by decide +kernel
theorem dX2_readOpened_64 : decode cX2_readOpened 64 = .ok (.ireturn, 1) := by decide +kernel
theorem dX2_readOpened_65 : decode cX2_readOpened 65 = .ok (.aload_n 0, 1) := by decide +kernel
theorem dX2_readOpened_66 : decode cX2_readOpened 66 = .ok (.dup, 1) := by decide +kernel
theorem dX2_readOpened_67 : decode cX2_readOpened 67 = .ok (.getfield 26, 3) := by decide +kernel
theorem dX2_readOpened_70 : decode cX2_readOpened 70 = .ok (.iconst 1, 1) := by decide +kernel
theorem dX2_readOpened_71 : decode cX2_readOpened 71 = .ok (.iadd, 1) := by decide +kernel
theorem dX2_readOpened_72 : decode cX2_readOpened 72 = .ok (.putfield 26, 3) := by decide +kernel
theorem dX2_readOpened_75 : decode cX2_readOpened 75 = .ok (.iconst 1, 1) := by decide +kernel
theorem dX2_readOpened_76 : decode cX2_readOpened 76 = .ok (.ireturn, 1) := by decide +kernel
def fX2_readOpened_B63 (zX2_readLevel : Int32 → Nat → Int32 → Mm → Option (Bool × Mm)) (zX2_readPart : Nat → Int32 → Mm → Option (Bool × Mm)) (zX2_readOpened : Int32 → Nat → Int32 → Mm → Option (Bool × Mm)) (M : Mm) : Option (Bool × Mm) :=
  some (false, M)
theorem tX2_readOpened_B63 (l : Launch) (G : Gx) (zX2_readLevel : Int32 → Nat → Int32 → Mm → Option (Bool × Mm)) (zX2_readPart : Nat → Int32 → Mm → Option (Bool × Mm)) (zX2_readOpened : Int32 → Nat → Int32 → Mm → Option (Bool × Mm)) (lev lev1 : Nat) (hlev : Nat.ble (lev1 + 1) lev = true) (hbase : 5 ≤ lev) (hzX2_readLevel : ∀ (a1 : Int32) (a2 : Nat) (a3 : Int32) (M : Mm), Mt cQz l layC G lev1 yX2_readLevel cX2_readLevel 7 (some .boolean) [rf G 153, .int a1, xf G (2 + a2), .int a3] M (zX2_readLevel a1 a2 a3 M)) (hzX2_readPart : ∀ (a1 : Nat) (a2 : Int32) (M : Mm), Mt cQz l layC G lev1 yX2_readPart cX2_readPart 5 (some .boolean) [rf G 153, xf G (2 + a1), .int a2] M (zX2_readPart a1 a2 M)) (hzX2_readOpened : ∀ (a1 : Int32) (a2 : Nat) (a3 : Int32) (M : Mm), Mt cQz l layC G lev1 yX2_readOpened cX2_readOpened 5 (some .boolean) [rf G 153, .int a1, xf G (2 + a2), .int a3] M (zX2_readOpened a1 a2 a3 M)) (M : Mm) : Sim cQz l layC G lev cX2_readOpened RX2 5 (some .boolean) 63 [] [] M (fX2_readOpened_B63 zX2_readLevel zX2_readPart zX2_readOpened M) := by
  unfold fX2_readOpened_B63
  refine s_iconst (v := 0) dX2_readOpened_63 ci_0 ?_
  exact s_zret0 rfl dX2_readOpened_64
def fX2_readOpened_b (zX2_readLevel : Int32 → Nat → Int32 → Mm → Option (Bool × Mm)) (zX2_readPart : Nat → Int32 → Mm → Option (Bool × Mm)) (zX2_readOpened : Int32 → Nat → Int32 → Mm → Option (Bool × Mm)) (a1 : Int32) (a2 : Nat) (a3 : Int32) (M : Mm) : Option (Bool × Mm) :=
  lt (wr M 153 2 ((M 153 2) + (1 : Int32))) fun M1 =>
  if a1 = (33 : Int32) then (bd (zX2_readPart a2 a3 M1) fun r7 M8 =>
  bd (fX5_add 154 (-33 : Int32) M8) fun r9 M10 =>
  some (r7, M10))
  else bd (zX2_readLevel (0 : Int32) a2 a3 M1) fun r2 M3 =>
  if r2 = true then (bd (fX5_at 64 (M3 153 2) M3) fun r4 M5 =>
  if r4 = (41 : Int32) then (lt (wr M5 153 2 ((M5 153 2) + (1 : Int32))) fun M6 =>
  some (true, M6))
  else fX2_readOpened_B63 zX2_readLevel zX2_readPart zX2_readOpened M5)
  else fX2_readOpened_B63 zX2_readLevel zX2_readPart zX2_readOpened M3
theorem mX2_readOpened_b (l : Launch) (G : Gx) (zX2_readLevel : Int32 → Nat → Int32 → Mm → Option (Bool × Mm)) (zX2_readPart : Nat → Int32 → Mm → Option (Bool × Mm)) (zX2_readOpened : Int32 → Nat → Int32 → Mm → Option (Bool × Mm)) (lev lev1 : Nat) (hlev : Nat.ble (lev1 + 1) lev = true) (hbase : 5 ≤ lev) (hzX2_readLevel : ∀ (a1 : Int32) (a2 : Nat) (a3 : Int32) (M : Mm), Mt cQz l layC G lev1 yX2_readLevel cX2_readLevel 7 (some .boolean) [rf G 153, .int a1, xf G (2 + a2), .int a3] M (zX2_readLevel a1 a2 a3 M)) (hzX2_readPart : ∀ (a1 : Nat) (a2 : Int32) (M : Mm), Mt cQz l layC G lev1 yX2_readPart cX2_readPart 5 (some .boolean) [rf G 153, xf G (2 + a1), .int a2] M (zX2_readPart a1 a2 M)) (hzX2_readOpened : ∀ (a1 : Int32) (a2 : Nat) (a3 : Int32) (M : Mm), Mt cQz l layC G lev1 yX2_readOpened cX2_readOpened 5 (some .boolean) [rf G 153, .int a1, xf G (2 + a2), .int a3] M (zX2_readOpened a1 a2 a3 M)) (a1 : Int32) (a2 : Nat) (a3 : Int32) (M : Mm) : Mt cQz l layC G lev yX2_readOpened cX2_readOpened 5 (some .boolean) [rf G 153, .int a1, xf G (2 + a2), .int a3] M (fX2_readOpened_b zX2_readLevel zX2_readPart zX2_readOpened a1 a2 a3 M) := by
  refine Mt.of2 (own := RX2) (lv := [(0, rf G 153), (1, .int a1), (2, xf G (2 + a2)), (3, .int a3)]) rfl (by decide +kernel) rfl rfl ?_
  unfold fX2_readOpened_b
  refine s_aload_n 0 dX2_readOpened_0 rfl rfl ?_
  refine s_dup dX2_readOpened_1 rfl ?_
  refine g_X2_26 rfl dX2_readOpened_2 ?_
  refine s_iconst (v := 1) dX2_readOpened_5 ci_1 ?_
  refine s_iadd dX2_readOpened_6 ?_
  refine p_X2_26 rfl dX2_readOpened_7 ?_
  refine s_letM fun M1 => ?_
  refine s_iload_n 1 dX2_readOpened_10 rfl rfl ?_
  refine s_bipush (v := 33) dX2_readOpened_11 cb_33 ?_
  refine s_icmpne (tgt := 37) dX2_readOpened_13 (by decide) ?_ ?_
  · refine s_aload_n 0 dX2_readOpened_37 rfl rfl ?_
    refine s_iconst (v := 0) dX2_readOpened_38 ci_0 ?_
    refine s_aload_n 2 dX2_readOpened_39 rfl rfl ?_
    refine s_iload_n 3 dX2_readOpened_40 rfl rfl ?_
    refine s_call_z (s_runV (ci := 2) (rest := []) rfl rfl (hzX2_readLevel (0 : Int32) a2 a3 M1) ok_X2_readLevel k_X2_30 hlev rfl rfl rfl dX2_readOpened_41) fun r2 M3 => ?_
    refine s_ifeqB (tgt := 63) dX2_readOpened_44 (by decide) ?_ ?_
    · exact s_sub [] rfl (tX2_readOpened_B63 l G zX2_readLevel zX2_readPart zX2_readOpened lev lev1 hlev hbase hzX2_readLevel hzX2_readPart hzX2_readOpened M3)
    · refine s_aload_n 0 dX2_readOpened_47 rfl rfl ?_
      refine g_X2_20 (q := 64) rfl rfl dX2_readOpened_48 ?_
      refine s_aload_n 0 dX2_readOpened_51 rfl rfl ?_
      refine g_X2_26 rfl dX2_readOpened_52 ?_
      refine s_call_i (s_runV (ci := 5) (rest := []) rfl rfl (mX5_at l G 64 (M3 153 2) M3) ok_X5_at k_X2_45 (ble_of hbase rfl) rfl rfl rfl dX2_readOpened_55) fun r4 M5 => ?_
      refine s_bipush (v := 41) dX2_readOpened_58 cb_41 ?_
      refine s_icmpeq (tgt := 65) dX2_readOpened_60 (by decide) ?_ ?_
      · refine s_aload_n 0 dX2_readOpened_65 rfl rfl ?_
        refine s_dup dX2_readOpened_66 rfl ?_
        refine g_X2_26 rfl dX2_readOpened_67 ?_
        refine s_iconst (v := 1) dX2_readOpened_70 ci_1 ?_
        refine s_iadd dX2_readOpened_71 ?_
        refine p_X2_26 rfl dX2_readOpened_72 ?_
        refine s_letM fun M6 => ?_
        refine s_iconst (v := 1) dX2_readOpened_75 ci_1 ?_
        exact s_zret1 rfl dX2_readOpened_76
      · exact s_sub [] rfl (tX2_readOpened_B63 l G zX2_readLevel zX2_readPart zX2_readOpened lev lev1 hlev hbase hzX2_readLevel hzX2_readPart hzX2_readOpened M5)
  · refine s_aload_n 0 dX2_readOpened_16 rfl rfl ?_
    refine s_aload_n 2 dX2_readOpened_17 rfl rfl ?_
    refine s_iload_n 3 dX2_readOpened_18 rfl rfl ?_
    refine s_call_z (s_runV (ci := 2) (rest := []) rfl rfl (hzX2_readPart a2 a3 M1) ok_X2_readPart k_X2_37 hlev rfl rfl rfl dX2_readOpened_19) fun r7 M8 => ?_
    refine s_istore (lv' := [(4, .int (bi r7)), (0, rf G 153), (1, .int a1), (2, xf G (2 + a2)), (3, .int a3)]) dX2_readOpened_22 rfl rfl ?_
    refine s_aload_n 1 dX2_readOpened_24 rfl rfl ?_
    refine g_X2_14 (q := 154) rfl rfl dX2_readOpened_25 ?_
    refine s_bipush (v := -33) dX2_readOpened_28 cb_m33 ?_
    refine s_call_z (s_runV (ci := 5) (rest := []) rfl rfl (mX5_add l G 154 (-33 : Int32) M8) ok_X5_add k_X2_48 (ble_of hbase rfl) rfl rfl rfl dX2_readOpened_30) fun r9 M10 => ?_
    refine s_pop dX2_readOpened_33 rfl ?_
    refine s_iload 0 dX2_readOpened_34 rfl ?_
    exact s_zretB rfl dX2_readOpened_36
def grX2_readLevel : Nat → (Int32 → Nat → Int32 → Mm → Option (Bool × Mm)) × (Nat → Int32 → Mm → Option (Bool × Mm)) × (Int32 → Nat → Int32 → Mm → Option (Bool × Mm))
  | 0 => (fun _ _ _ _ => none, fun _ _ _ => none, fun _ _ _ _ => none)
  | d + 1 => (fX2_readLevel_b ((grX2_readLevel d).1) ((grX2_readLevel d).2.1) ((grX2_readLevel d).2.2), fX2_readPart_b ((grX2_readLevel d).1) ((grX2_readLevel d).2.1) ((grX2_readLevel d).2.2), fX2_readOpened_b ((grX2_readLevel d).1) ((grX2_readLevel d).2.1) ((grX2_readLevel d).2.2))
def fX2_readLevel (d : Nat) : Int32 → Nat → Int32 → Mm → Option (Bool × Mm) := (grX2_readLevel d).1
def fX2_readPart (d : Nat) : Nat → Int32 → Mm → Option (Bool × Mm) := (grX2_readLevel d).2.1
def fX2_readOpened (d : Nat) : Int32 → Nat → Int32 → Mm → Option (Bool × Mm) := (grX2_readLevel d).2.2
theorem mgX2_readLevel (l : Launch) (G : Gx) : ∀ d : Nat, (∀ (a1 : Int32) (a2 : Nat) (a3 : Int32) (M : Mm), Mt cQz l layC G (5 + d) yX2_readLevel cX2_readLevel 7 (some .boolean) [rf G 153, .int a1, xf G (2 + a2), .int a3] M (fX2_readLevel d a1 a2 a3 M)) ∧ (∀ (a1 : Nat) (a2 : Int32) (M : Mm), Mt cQz l layC G (5 + d) yX2_readPart cX2_readPart 5 (some .boolean) [rf G 153, xf G (2 + a1), .int a2] M (fX2_readPart d a1 a2 M)) ∧ (∀ (a1 : Int32) (a2 : Nat) (a3 : Int32) (M : Mm), Mt cQz l layC G (5 + d) yX2_readOpened cX2_readOpened 5 (some .boolean) [rf G 153, .int a1, xf G (2 + a2), .int a3] M (fX2_readOpened d a1 a2 a3 M))
  | 0 => ⟨fun _ _ _ _ => Mt.none, fun _ _ _ => Mt.none, fun _ _ _ _ => Mt.none⟩
  | d + 1 => ⟨fun a1 a2 a3 M => mX2_readLevel_b l G (fX2_readLevel d) (fX2_readPart d) (fX2_readOpened d) (5 + (d + 1)) (5 + d) (Nat.ble_eq.mpr (Nat.le_refl _)) (Nat.le_add_right _ _) ((mgX2_readLevel l G d).1) ((mgX2_readLevel l G d).2.1) ((mgX2_readLevel l G d).2.2) a1 a2 a3 M, fun a1 a2 M => mX2_readPart_b l G (fX2_readLevel d) (fX2_readPart d) (fX2_readOpened d) (5 + (d + 1)) (5 + d) (Nat.ble_eq.mpr (Nat.le_refl _)) (Nat.le_add_right _ _) ((mgX2_readLevel l G d).1) ((mgX2_readLevel l G d).2.1) ((mgX2_readLevel l G d).2.2) a1 a2 M, fun a1 a2 a3 M => mX2_readOpened_b l G (fX2_readLevel d) (fX2_readPart d) (fX2_readOpened d) (5 + (d + 1)) (5 + d) (Nat.ble_eq.mpr (Nat.le_refl _)) (Nat.le_add_right _ _) ((mgX2_readLevel l G d).1) ((mgX2_readLevel l G d).2.1) ((mgX2_readLevel l G d).2.2) a1 a2 a3 M⟩
theorem mX2_readLevel (l : Launch) (G : Gx) (d : Nat) (a1 : Int32) (a2 : Nat) (a3 : Int32) (M : Mm) : Mt cQz l layC G (5 + d) yX2_readLevel cX2_readLevel 7 (some .boolean) [rf G 153, .int a1, xf G (2 + a2), .int a3] M (fX2_readLevel d a1 a2 a3 M) := (mgX2_readLevel l G d).1 a1 a2 a3 M
theorem mX2_readPart (l : Launch) (G : Gx) (d : Nat) (a1 : Nat) (a2 : Int32) (M : Mm) : Mt cQz l layC G (5 + d) yX2_readPart cX2_readPart 5 (some .boolean) [rf G 153, xf G (2 + a1), .int a2] M (fX2_readPart d a1 a2 M) := (mgX2_readLevel l G d).2.1 a1 a2 M
theorem mX2_readOpened (l : Launch) (G : Gx) (d : Nat) (a1 : Int32) (a2 : Nat) (a3 : Int32) (M : Mm) : Mt cQz l layC G (5 + d) yX2_readOpened cX2_readOpened 5 (some .boolean) [rf G 153, .int a1, xf G (2 + a2), .int a3] M (fX2_readOpened d a1 a2 a3 M) := (mgX2_readLevel l G d).2.2 a1 a2 a3 M
theorem dX2_faultOfTape_0 : decode cX2_faultOfTape 0 = .ok (.aload_n 0, 1) := by decide +kernel
theorem dX2_faultOfTape_1 : decode cX2_faultOfTape 1 = .ok (.getfield 14, 3) := by decide +kernel
theorem dX2_faultOfTape_4 : decode cX2_faultOfTape 4 = .ok (.invokevirtual 23, 3) := by decide +kernel
theorem dX2_faultOfTape_7 : decode cX2_faultOfTape 7 = .ok (.aload_n 0, 1) := by decide +kernel
theorem dX2_faultOfTape_8 : decode cX2_faultOfTape 8 = .ok (.iconst 0, 1) := by decide +kernel
theorem dX2_faultOfTape_9 : decode cX2_faultOfTape 9 = .ok (.putfield 26, 3) := by decide +kernel
theorem dX2_faultOfTape_12 : decode cX2_faultOfTape 12 = .ok (.aload_n 0, 1) := by decide +kernel
theorem dX2_faultOfTape_13 : decode cX2_faultOfTape 13 = .ok (.iconst 0, 1) := by decide +kernel
theorem dX2_faultOfTape_14 : decode cX2_faultOfTape 14 = .ok (.aload_n 1, 1) := by decide +kernel
theorem dX2_faultOfTape_15 : decode cX2_faultOfTape 15 = .ok (.iconst 0, 1) := by decide +kernel
theorem dX2_faultOfTape_16 : decode cX2_faultOfTape 16 = .ok (.invokevirtual 30, 3) := by decide +kernel
theorem dX2_faultOfTape_19 : decode cX2_faultOfTape 19 = .ok (.istore_n 2, 1) := by decide +kernel
theorem dX2_faultOfTape_20 : decode cX2_faultOfTape 20 = .ok (.iload_n 2, 1) := by decide +kernel
theorem dX2_faultOfTape_21 : decode cX2_faultOfTape 21 = .ok (.ifCond .eq 21, 3) := by decide +kernel
theorem dX2_faultOfTape_24 : decode cX2_faultOfTape 24 = .ok (.aload_n 0, 1) := by decide +kernel
theorem dX2_faultOfTape_25 : decode cX2_faultOfTape 25 = .ok (.getfield 26, 3) := by decide +kernel
theorem dX2_faultOfTape_28 : decode cX2_faultOfTape 28 = .ok (.aload_n 0, 1) := by decide +kernel
theorem dX2_faultOfTape_29 : decode cX2_faultOfTape 29 = .ok (.getfield 20, 3) := by decide +kernel
theorem dX2_faultOfTape_32 : decode cX2_faultOfTape 32 = .ok (.getfield 34, 3) := by decide +kernel
theorem dX2_faultOfTape_35 : decode cX2_faultOfTape 35 = .ok (.if_icmp .ne 7, 3) := by decide +kernel
theorem dX2_faultOfTape_38 : decode cX2_faultOfTape 38 = .ok (.iconst (-1), 1) := by decide +kernel
theorem dX2_faultOfTape_39 : decode cX2_faultOfTape 39 = .ok (.goto 7, 3) := by decide +kernel
theorem dX2_faultOfTape_42 : decode cX2_faultOfTape 42 = .ok (.aload_n 0, 1) := by decide +kernel
theorem dX2_faultOfTape_43 : decode cX2_faultOfTape 43 = .ok (.getfield 26, 3) := by decide +kernel
theorem dX2_faultOfTape_46 : decode cX2_faultOfTape 46 = .ok (.ireturn, 1) := by decide +kernel
def fX2_faultOfTape_B46 (w0 : Int32) (M : Mm) : Option (Int32 × Mm) :=
  some (w0, M)
theorem tX2_faultOfTape_B46 (l : Launch) (G : Gx) (w0 : Int32) (M : Mm) : Sim cQi l layC G 86 cX2_faultOfTape RX2 3 (some .int) 46 [] [.int w0] M (fX2_faultOfTape_B46 w0 M) := by
  unfold fX2_faultOfTape_B46
  exact s_iret rfl dX2_faultOfTape_46
def fX2_faultOfTape_B42 (M : Mm) : Option (Int32 × Mm) :=
  fX2_faultOfTape_B46 (M 153 2) M
theorem tX2_faultOfTape_B42 (l : Launch) (G : Gx) (M : Mm) : Sim cQi l layC G 86 cX2_faultOfTape RX2 3 (some .int) 42 [(0, rf G 153)] [] M (fX2_faultOfTape_B42 M) := by
  unfold fX2_faultOfTape_B42
  refine s_aload_n 0 dX2_faultOfTape_42 rfl rfl ?_
  refine g_X2_26 rfl dX2_faultOfTape_43 ?_
  exact s_sub [] rfl (tX2_faultOfTape_B46 l G (M 153 2) M)
def fX2_faultOfTape (a1 : Nat) (M : Mm) : Option (Int32 × Mm) :=
  bd (fX5_clear 154 M) fun r1 M2 =>
  lt (wr M2 153 2 (0 : Int32)) fun M3 =>
  bd (fX2_readLevel DPR (0 : Int32) a1 (0 : Int32) M3) fun r4 M5 =>
  if r4 = true then (if (M5 153 2) = (M5 64 1) then (fX2_faultOfTape_B46 (-1 : Int32) M5)
  else fX2_faultOfTape_B42 M5)
  else fX2_faultOfTape_B42 M5
theorem mX2_faultOfTape (l : Launch) (G : Gx) (a1 : Nat) (M : Mm) : Mt cQi l layC G 86 yX2_faultOfTape cX2_faultOfTape 3 (some .int) [rf G 153, xf G (2 + a1)] M (fX2_faultOfTape a1 M) := by
  refine Mt.of2 (own := RX2) (lv := [(0, rf G 153), (1, xf G (2 + a1))]) rfl (by decide +kernel) rfl rfl ?_
  unfold fX2_faultOfTape
  refine s_aload_n 0 dX2_faultOfTape_0 rfl rfl ?_
  refine g_X2_14 (q := 154) rfl rfl dX2_faultOfTape_1 ?_
  refine s_call_v (s_runV (ci := 5) (rest := []) rfl rfl (mX5_clear l G 154 M) ok_X5_clear k_X2_23 rfl rfl rfl rfl dX2_faultOfTape_4) fun r1 M2 => ?_
  refine s_aload_n 0 dX2_faultOfTape_7 rfl rfl ?_
  refine s_iconst (v := 0) dX2_faultOfTape_8 ci_0 ?_
  refine p_X2_26 rfl dX2_faultOfTape_9 ?_
  refine s_letM fun M3 => ?_
  refine s_aload_n 0 dX2_faultOfTape_12 rfl rfl ?_
  refine s_iconst (v := 0) dX2_faultOfTape_13 ci_0 ?_
  refine s_aload_n 1 dX2_faultOfTape_14 rfl rfl ?_
  refine s_iconst (v := 0) dX2_faultOfTape_15 ci_0 ?_
  refine s_call_z (s_runV (ci := 2) (rest := []) rfl rfl (mX2_readLevel l G DPR (0 : Int32) a1 (0 : Int32) M3) ok_X2_readLevel k_X2_30 rfl rfl rfl rfl dX2_faultOfTape_16) fun r4 M5 => ?_
  refine s_istore_n (lv' := [(2, .int (bi r4)), (0, rf G 153), (1, xf G (2 + a1))]) dX2_faultOfTape_19 rfl rfl rfl ?_
  refine s_iload_n 0 dX2_faultOfTape_20 rfl rfl ?_
  refine s_ifeqB (tgt := 42) dX2_faultOfTape_21 (by decide) ?_ ?_
  · exact s_sub [1] rfl (tX2_faultOfTape_B42 l G M5)
  · refine s_aload_n 1 dX2_faultOfTape_24 rfl rfl ?_
    refine g_X2_26 rfl dX2_faultOfTape_25 ?_
    refine s_aload_n 1 dX2_faultOfTape_28 rfl rfl ?_
    refine g_X2_20 (q := 64) rfl rfl dX2_faultOfTape_29 ?_
    refine g_X2_34 rfl dX2_faultOfTape_32 ?_
    refine s_icmpne (tgt := 42) dX2_faultOfTape_35 (by decide) ?_ ?_
    · exact s_sub [1] rfl (tX2_faultOfTape_B42 l G M5)
    · refine s_iconst (v := -1) dX2_faultOfTape_38 ci_m1 ?_
      refine s_goto (tgt := 46) dX2_faultOfTape_39 (by decide) ?_
      exact s_sub [] rfl (tX2_faultOfTape_B46 l G (-1 : Int32) M5)
