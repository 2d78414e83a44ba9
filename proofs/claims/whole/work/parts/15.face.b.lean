def fX9_needs_B21 (M : Mm) : Option (Int32 × Mm) :=
  bd (fX9_refuse (-1000000001 : Int32) M) fun r5 M6 =>
  some (r5, M6)
theorem tX9_needs_B21 (l : Launch) (G : Gx) (M : Mm) : Sim cQi l layC G 6 cX9_needs RX9 5 (some .int) 21 [(0, rf G 173)] [] M (fX9_needs_B21 M) := by
  unfold fX9_needs_B21
  refine s_aload_n 0 dX9_needs_21 rfl rfl ?_
  refine s_ldc (v := -1000000001) dX9_needs_22 q_425 ?_
  refine s_call_i (s_runV (ci := 9) (rest := []) rfl rfl (mX9_refuse l G (-1000000001 : Int32) M) ok_X9_refuse k_X9_72 rfl rfl rfl rfl dX9_needs_24) fun r5 M6 => ?_
  exact s_iret rfl dX9_needs_27
def fX9_needs_B106 (M : Mm) : Option (Int32 × Mm) :=
  bd (fX9_refuse (-1000000002 : Int32) M) fun r9 M10 =>
  some (r9, M10)
theorem tX9_needs_B106 (l : Launch) (G : Gx) (M : Mm) : Sim cQi l layC G 6 cX9_needs RX9 5 (some .int) 106 [(0, rf G 173)] [] M (fX9_needs_B106 M) := by
  unfold fX9_needs_B106
  refine s_aload_n 0 dX9_needs_106 rfl rfl ?_
  refine s_ldc (v := -1000000002) dX9_needs_107 q_779 ?_
  refine s_call_i (s_runV (ci := 9) (rest := []) rfl rfl (mX9_refuse l G (-1000000002 : Int32) M) ok_X9_refuse k_X9_72 rfl rfl rfl rfl dX9_needs_109) fun r9 M10 => ?_
  exact s_iret rfl dX9_needs_112
def fX9_needs_B97 (v4 : Int32) (M : Mm) : Option (Int32 × Mm) :=
  some (v4, M)
theorem tX9_needs_B97 (l : Launch) (G : Gx) (v4 : Int32) (M : Mm) : Sim cQi l layC G 6 cX9_needs RX9 5 (some .int) 97 [(4, .int v4)] [] M (fX9_needs_B97 v4 M) := by
  unfold fX9_needs_B97
  refine s_iload 0 dX9_needs_97 rfl ?_
  exact s_iret rfl dX9_needs_99
def fX9_needs_L55b (v3 : Nat) (v2 : Int32) (q55 : Int32 → Mm → Option (Int32 × Mm)) (v4 : Int32) (M : Mm) : Option (Int32 × Mm) :=
  if (999 : Int32) < v4 then (fX9_needs_B106 M)
  else bd (fX0_startLetter v3 M) fun r11 M12 =>
  gd (inb (0 : Int32) 8) <|
  gd (isC layC (138 + 1 * ix (0 : Int32)) 3) <|
  lt (wr M12 (138 + 1 * ix (0 : Int32)) 3 v4) fun M15 =>
  bd (fX0_clearInARun v2 M15) fun r16 M17 =>
  if r16 = v2 then (fX9_needs_B97 v4 M17)
  else q55 (v4 + 1) M17
def fX9_needs_L55 (v3 : Nat) (v2 : Int32) : Nat → Int32 → Mm → Option (Int32 × Mm)
  | 0 => fun _ _ => none
  | n + 1 => fX9_needs_L55b v3 v2 (fX9_needs_L55 v3 v2 n)
theorem tX9_needs_L55b (l : Launch) (G : Gx) (v3 : Nat) (v2 : Int32) (q55 : Int32 → Mm → Option (Int32 × Mm)) (hq55 : ∀ (v4 : Int32) (M : Mm), Sim cQi l layC G 6 cX9_needs RX9 5 (some .int) 55 [(4, .int v4), (3, rf G v3), (0, rf G 173), (2, .int v2)] [] M (q55 v4 M)) (v4 : Int32) (M : Mm) : Sim cQi l layC G 6 cX9_needs RX9 5 (some .int) 55 [(4, .int v4), (3, rf G v3), (0, rf G 173), (2, .int v2)] [] M (fX9_needs_L55b v3 v2 q55 v4 M) := by
  unfold fX9_needs_L55b
  refine s_iload 0 dX9_needs_55 rfl ?_
  refine s_sipush (v := 999) dX9_needs_57 cs_999 ?_
  refine s_icmpgt (tgt := 106) dX9_needs_60 (by decide) ?_ ?_
  · exact s_sub [2] rfl (tX9_needs_B106 l G M)
  · refine s_aload_n 2 dX9_needs_63 rfl rfl ?_
    refine g_X9_24 (q := 136) rfl rfl dX9_needs_64 ?_
    refine s_aload_n 1 dX9_needs_67 rfl rfl ?_
    refine s_call_v (s_runV (ci := 0) (rest := []) rfl rfl (mX0_startLetter l G v3 M) ok_X0_startLetter k_X9_219 rfl rfl rfl rfl dX9_needs_68) fun r11 M12 => ?_
    refine s_aload_n 2 dX9_needs_71 rfl rfl ?_
    refine g_X9_24 (q := 136) rfl rfl dX9_needs_72 ?_
    refine g_X9_227 (q := 137) rfl rfl dX9_needs_75 ?_
    refine s_iconst (v := 0) dX9_needs_78 ci_0 ?_
    refine s_gd fun h13 => ?_
    refine s_aald (t := 1) (bs := 138) (sd := 1) (n := 8) rfl rfl h13 dX9_needs_79 ?_
    refine s_iload 0 dX9_needs_80 rfl ?_
    refine s_gd fun h14 => ?_
    refine p_X9_105 h14 dX9_needs_82 ?_
    refine s_letM fun M15 => ?_
    refine s_aload_n 2 dX9_needs_85 rfl rfl ?_
    refine g_X9_24 (q := 136) rfl rfl dX9_needs_86 ?_
    refine s_iload_n 3 dX9_needs_89 rfl rfl ?_
    refine s_call_i (s_runV (ci := 0) (rest := []) rfl rfl (mX0_clearInARun l G v2 M15) ok_X0_clearInARun k_X9_216 rfl rfl rfl rfl dX9_needs_90) fun r16 M17 => ?_
    refine s_iload_n 3 dX9_needs_93 rfl rfl ?_
    refine s_icmpne (tgt := 100) dX9_needs_94 (by decide) ?_ ?_
    · refine s_iinc (k := 0) (lv' := [(4, .int (v4 + 1)), (3, rf G v3), (0, rf G 173), (2, .int v2)]) dX9_needs_100 rfl ci_1 rfl rfl ?_
      refine s_goto (tgt := 55) dX9_needs_103 (by decide) ?_
      exact s_sub [0, 1, 2, 3] rfl (hq55 (v4 + 1) M17)
    · exact s_sub [0] rfl (tX9_needs_B97 l G v4 M17)
theorem tX9_needs_L55 (l : Launch) (G : Gx) (v3 : Nat) (v2 : Int32) : ∀ (n : Nat) (v4 : Int32) (M : Mm), Sim cQi l layC G 6 cX9_needs RX9 5 (some .int) 55 [(4, .int v4), (3, rf G v3), (0, rf G 173), (2, .int v2)] [] M (fX9_needs_L55 v3 v2 n v4 M)
  | 0, _, _ => s_none
  | n + 1, v4, M => tX9_needs_L55b l G v3 v2 _ (tX9_needs_L55 l G v3 v2 n) v4 M
def fX9_needs (a1 : Int32) (a2 : Int32) (M : Mm) : Option (Int32 × Mm) :=
  bd (fX7_hasLetter a1 M) fun r1 M2 =>
  if r1 = true then (bd (fX9_isWithin a2 (1 : Int32) (30 : Int32) M2) fun r3 M4 =>
  if r3 = true then (gd (inb a1 24) <|
  gd (isC layC (4 + 1 * ix a1) 3) <|
  if 0 ≤ (M4 (4 + 1 * ix a1) 5) then (fX9_needs_L55 (4 + 1 * ix a1) a2 FU (0 : Int32) M4)
  else bd (fX9_refuse (-1000000003 : Int32) M4) fun r18 M19 =>
  some (r18, M19))
  else fX9_needs_B21 M4)
  else fX9_needs_B21 M2
theorem mX9_needs (l : Launch) (G : Gx) (a1 : Int32) (a2 : Int32) (M : Mm) : Mt cQi l layC G 6 yX9_needs cX9_needs 5 (some .int) [rf G 173, .int a1, .int a2] M (fX9_needs a1 a2 M) := by
  refine Mt.of2 (own := RX9) (lv := [(0, rf G 173), (1, .int a1), (2, .int a2)]) rfl (by decide +kernel) rfl rfl ?_
  unfold fX9_needs
  refine s_aload_n 0 dX9_needs_0 rfl rfl ?_
  refine g_X9_12 (q := 0) rfl rfl dX9_needs_1 ?_
  refine s_iload_n 1 dX9_needs_4 rfl rfl ?_
  refine s_call_z (s_runV (ci := 7) (rest := []) rfl rfl (mX7_hasLetter l G a1 M) ok_X7_hasLetter k_X9_79 rfl rfl rfl rfl dX9_needs_5) fun r1 M2 => ?_
  refine s_ifeqB (tgt := 21) dX9_needs_8 (by decide) ?_ ?_
  · exact s_sub [0] rfl (tX9_needs_B21 l G M2)
  · refine s_iload_n 2 dX9_needs_11 rfl rfl ?_
    refine s_iconst (v := 1) dX9_needs_12 ci_1 ?_
    refine s_bipush (v := 30) dX9_needs_13 cb_30 ?_
    refine s_call_z (s_runS (rest := []) (mX9_isWithin l G a2 (1 : Int32) (30 : Int32) M2) ok_X9_isWithin k_X9_83 rfl rfl rfl rfl dX9_needs_15) fun r3 M4 => ?_
    refine s_ifneB (tgt := 28) dX9_needs_18 (by decide) ?_ ?_
    · refine s_aload_n 0 dX9_needs_28 rfl rfl ?_
      refine g_X9_12 (q := 0) rfl rfl dX9_needs_29 ?_
      refine g_X9_88 (q := 3) rfl rfl dX9_needs_32 ?_
      refine s_iload_n 1 dX9_needs_35 rfl rfl ?_
      refine s_gd fun h7 => ?_
      refine s_aald (t := 1) (bs := 4) (sd := 1) (n := 24) rfl rfl h7 dX9_needs_36 ?_
      refine s_astore_n (lv' := [(3, rf G (4 + 1 * ix a1)), (0, rf G 173), (1, .int a1), (2, .int a2)]) dX9_needs_37 rfl rfl rfl ?_
      refine s_aload_n 0 dX9_needs_38 rfl rfl ?_
      refine s_gd fun h8 => ?_
      refine g_X9_117 h8 dX9_needs_39 ?_
      refine s_ifge (tgt := 52) dX9_needs_42 (by decide) ?_ ?_
      · refine s_iconst (v := 0) dX9_needs_52 ci_0 ?_
        refine s_istore (lv' := [(4, .int (0 : Int32)), (3, rf G (4 + 1 * ix a1)), (0, rf G 173), (1, .int a1), (2, .int a2)]) dX9_needs_53 rfl rfl ?_
        exact s_sub [0, 1, 2, 4] rfl (tX9_needs_L55 l G (4 + 1 * ix a1) a2 FU (0 : Int32) M4)
      · refine s_aload_n 1 dX9_needs_45 rfl rfl ?_
        refine s_ldc (v := -1000000003) dX9_needs_46 q_493 ?_
        refine s_call_i (s_runV (ci := 9) (rest := []) rfl rfl (mX9_refuse l G (-1000000003 : Int32) M4) ok_X9_refuse k_X9_72 rfl rfl rfl rfl dX9_needs_48) fun r18 M19 => ?_
        exact s_iret rfl dX9_needs_51
    · exact s_sub [0] rfl (tX9_needs_B21 l G M4)
theorem dX9_said_0 : decode cX9_said 0 = .ok (.iload_n 1, 1) := by decide +kernel
theorem dX9_said_1 : decode cX9_said 1 = .ok (.invokestatic 192, 3) := by decide +kernel
theorem dX9_said_4 : decode cX9_said 4 = .ok (.ifCond .ne 10, 3) := by decide +kernel
theorem dX9_said_7 : decode cX9_said 7 = .ok (.aload_n 0, 1) := by decide +kernel
theorem dX9_said_8 : decode cX9_said 8 = .ok (.ldc 87, 2) := by decide +kernel
theorem dX9_said_10 : decode cX9_said 10 = .ok (.invokevirtual 72, 3) := by decide +kernel
theorem dX9_said_13 : decode cX9_said 13 = .ok (.ireturn, 1) := by decide +kernel
theorem dX9_said_14 : decode cX9_said 14 = .ok (.iconst 0, 1) := by decide +kernel
theorem dX9_said_15 : decode cX9_said 15 = .ok (.istore_n 2, 1) := by decide +kernel
theorem dX9_said_16 : decode cX9_said 16 = .ok (.iconst 0, 1) := by decide +kernel
theorem dX9_said_17 : decode cX9_said 17 = .ok (.istore_n 3, 1) := by decide +kernel
theorem dX9_said_18 : decode cX9_said 18 = .ok (.iload_n 3, 1) := by decide +kernel
theorem dX9_said_19 : decode cX9_said 19 = .ok (.aload_n 0, 1) := by decide +kernel
theorem dX9_said_20 : decode cX9_said 20 = .ok (.getfield 12, 3) := by decide +kernel
theorem dX9_said_23 : decode cX9_said 23 = .ok (.getfield 178, 3) := by decide +kernel
theorem dX9_said_26 : decode cX9_said 26 = .ok (.if_icmp .ge 35, 3) := by decide +kernel
theorem dX9_said_29 : decode cX9_said 29 = .ok (.aload_n 0, 1) := by decide +kernel
theorem dX9_said_30 : decode cX9_said 30 = .ok (.getfield 12, 3) := by decide +kernel
theorem dX9_said_33 : decode cX9_said 33 = .ok (.iload_n 1, 1) := by decide +kernel
theorem dX9_said_34 : decode cX9_said 34 = .ok (.aload_n 0, 1) := by decide +kernel
theorem dX9_said_35 : decode cX9_said 35 = .ok (.getfield 12, 3) := by decide +kernel
theorem dX9_said_38 : decode cX9_said 38 = .ok (.getfield 185, 3) := by decide +kernel
theorem dX9_said_41 : decode cX9_said 41 = .ok (.iload_n 3, 1) := by decide +kernel
theorem dX9_said_42 : decode cX9_said 42 = .ok (.aaload, 1) := by decide +kernel
theorem dX9_said_43 : decode cX9_said 43 = .ok (.invokevirtual 245, 3) := by decide +kernel
theorem dX9_said_46 : decode cX9_said 46 = .ok (.ifCond .eq 9, 3) := by decide +kernel
theorem dX9_said_49 : decode cX9_said 49 = .ok (.iload_n 2, 1) := by decide +kernel
theorem dX9_said_50 : decode cX9_said 50 = .ok (.iconst 1, 1) := by decide +kernel
theorem dX9_said_51 : decode cX9_said 51 = .ok (.iload_n 3, 1) := by decide +kernel
theorem dX9_said_52 : decode cX9_said 52 = .ok (.ishl, 1) := by decide +kernel
theorem dX9_said_53 : decode cX9_said 53 = .ok (.ior, 1) := by decide +kernel
theorem dX9_said_54 : decode cX9_said 54 = .ok (.istore_n 2, 1) := by decide +kernel
theorem dX9_said_55 : decode cX9_said 55 = .ok (.iinc 3 1, 3) := by decide +kernel
theorem dX9_said_58 : decode cX9_said 58 = .ok (.goto (-40), 3) := by decide +kernel
theorem dX9_said_61 : decode cX9_said 61 = .ok (.iload_n 2, 1) := by decide +kernel
theorem dX9_said_62 : decode cX9_said 62 = .ok (.ireturn, 1) := by decide +kernel
def fX9_said_B61 (v2 : Int32) (M : Mm) : Option (Int32 × Mm) :=
  some (v2, M)
theorem tX9_said_B61 (l : Launch) (G : Gx) (v2 : Int32) (M : Mm) : Sim cQi l layC G 5 cX9_said RX9 4 (some .int) 61 [(2, .int v2)] [] M (fX9_said_B61 v2 M) := by
  unfold fX9_said_B61
  refine s_iload_n 0 dX9_said_61 rfl rfl ?_
  exact s_iret rfl dX9_said_62
def fX9_said_B55 (q18 : Int32 → Int32 → Mm → Option (Int32 × Mm)) (v2 : Int32) (v3 : Int32) (v1 : Int32) (M : Mm) : Option (Int32 × Mm) :=
  q18 (v3 + 1) v2 M
theorem tX9_said_B55 (l : Launch) (G : Gx) (v2 : Int32) (v3 : Int32) (v1 : Int32) (q18 : Int32 → Int32 → Mm → Option (Int32 × Mm)) (hq18 : ∀ (v3 : Int32) (v2 : Int32) (M : Mm), Sim cQi l layC G 5 cX9_said RX9 4 (some .int) 18 [(3, .int v3), (2, .int v2), (0, rf G 173), (1, .int v1)] [] M (q18 v3 v2 M)) (M : Mm) : Sim cQi l layC G 5 cX9_said RX9 4 (some .int) 55 [(2, .int v2), (3, .int v3), (0, rf G 173), (1, .int v1)] [] M (fX9_said_B55 q18 v2 v3 v1 M) := by
  unfold fX9_said_B55
  refine s_iinc (k := 1) (lv' := [(3, .int (v3 + 1)), (2, .int v2), (0, rf G 173), (1, .int v1)]) dX9_said_55 rfl ci_1 rfl rfl ?_
  refine s_goto (tgt := 18) dX9_said_58 (by decide) ?_
  exact s_sub [0, 1, 2, 3] rfl (hq18 (v3 + 1) v2 M)
def fX9_said_L18b (v1 : Int32) (q18 : Int32 → Int32 → Mm → Option (Int32 × Mm)) (v3 : Int32) (v2 : Int32) (M : Mm) : Option (Int32 × Mm) :=
  if (M 0 12) ≤ v3 then (fX9_said_B61 v2 M)
  else gd (inb v3 8) <|
  bd (fX7_mayHaveSaid v1 (48 + 2 * ix v3) M) fun r6 M7 =>
  if r6 = true then (lt (v2 ||| ((1 : Int32) <<< (v3 &&& 31))) fun x8 =>
  fX9_said_B55 q18 x8 v3 v1 M7)
  else fX9_said_B55 q18 v2 v3 v1 M7
def fX9_said_L18 (v1 : Int32) : Nat → Int32 → Int32 → Mm → Option (Int32 × Mm)
  | 0 => fun _ _ _ => none
  | n + 1 => fX9_said_L18b v1 (fX9_said_L18 v1 n)
theorem tX9_said_L18b (l : Launch) (G : Gx) (v1 : Int32) (q18 : Int32 → Int32 → Mm → Option (Int32 × Mm)) (hq18 : ∀ (v3 : Int32) (v2 : Int32) (M : Mm), Sim cQi l layC G 5 cX9_said RX9 4 (some .int) 18 [(3, .int v3), (2, .int v2), (0, rf G 173), (1, .int v1)] [] M (q18 v3 v2 M)) (v3 : Int32) (v2 : Int32) (M : Mm) : Sim cQi l layC G 5 cX9_said RX9 4 (some .int) 18 [(3, .int v3), (2, .int v2), (0, rf G 173), (1, .int v1)] [] M (fX9_said_L18b v1 q18 v3 v2 M) := by
  unfold fX9_said_L18b
  refine s_iload_n 0 dX9_said_18 rfl rfl ?_
  refine s_aload_n 2 dX9_said_19 rfl rfl ?_
  refine g_X9_12 (q := 0) rfl rfl dX9_said_20 ?_
  refine g_X9_178 rfl dX9_said_23 ?_
  refine s_icmpge (tgt := 61) dX9_said_26 (by decide) ?_ ?_
  · exact s_sub [1] rfl (tX9_said_B61 l G v2 M)
  · refine s_aload_n 2 dX9_said_29 rfl rfl ?_
    refine g_X9_12 (q := 0) rfl rfl dX9_said_30 ?_
    refine s_iload_n 3 dX9_said_33 rfl rfl ?_
    refine s_aload_n 2 dX9_said_34 rfl rfl ?_
    refine g_X9_12 (q := 0) rfl rfl dX9_said_35 ?_
    refine g_X9_185 (q := 47) rfl rfl dX9_said_38 ?_
    refine s_iload_n 0 dX9_said_41 rfl rfl ?_
    refine s_gd fun h5 => ?_
    refine s_aald (t := 2) (bs := 48) (sd := 2) (n := 8) rfl rfl h5 dX9_said_42 ?_
    refine s_call_z (s_runV (ci := 7) (rest := []) rfl rfl (mX7_mayHaveSaid l G v1 (48 + 2 * ix v3) M) ok_X7_mayHaveSaid k_X9_245 rfl rfl rfl rfl dX9_said_43) fun r6 M7 => ?_
    refine s_ifeqB (tgt := 55) dX9_said_46 (by decide) ?_ ?_
    · exact s_sub [1, 0, 2, 3] rfl (tX9_said_B55 l G v2 v3 v1 q18 hq18 M7)
    · refine s_iload_n 1 dX9_said_49 rfl rfl ?_
      refine s_iconst (v := 1) dX9_said_50 ci_1 ?_
      refine s_iload_n 0 dX9_said_51 rfl rfl ?_
      refine s_ishl dX9_said_52 ?_
      refine s_ior dX9_said_53 ?_
      refine s_leti fun x8 => ?_
      refine s_istore_n (lv' := [(2, .int x8), (3, .int v3), (0, rf G 173), (1, .int v1)]) dX9_said_54 rfl rfl rfl ?_
      exact s_sub [0, 1, 2, 3] rfl (tX9_said_B55 l G x8 v3 v1 q18 hq18 M7)
theorem tX9_said_L18 (l : Launch) (G : Gx) (v1 : Int32) : ∀ (n : Nat) (v3 : Int32) (v2 : Int32) (M : Mm), Sim cQi l layC G 5 cX9_said RX9 4 (some .int) 18 [(3, .int v3), (2, .int v2), (0, rf G 173), (1, .int v1)] [] M (fX9_said_L18 v1 n v3 v2 M)
  | 0, _, _, _ => s_none
  | n + 1, v3, v2, M => tX9_said_L18b l G v1 _ (tX9_said_L18 l G v1 n) v3 v2 M
def fX9_said (a1 : Int32) (M : Mm) : Option (Int32 × Mm) :=
  bd (fX9_isPage a1 M) fun r1 M2 =>
  if r1 = true then (fX9_said_L18 a1 FU (0 : Int32) (0 : Int32) M2)
  else bd (fX9_refuse (-1000000001 : Int32) M2) fun r3 M4 =>
  some (r3, M4)
theorem mX9_said (l : Launch) (G : Gx) (a1 : Int32) (M : Mm) : Mt cQi l layC G 5 yX9_said cX9_said 4 (some .int) [rf G 173, .int a1] M (fX9_said a1 M) := by
  refine Mt.of2 (own := RX9) (lv := [(0, rf G 173), (1, .int a1)]) rfl (by decide +kernel) rfl rfl ?_
  unfold fX9_said
  refine s_iload_n 1 dX9_said_0 rfl rfl ?_
  refine s_call_z (s_runS (rest := []) (mX9_isPage l G a1 M) ok_X9_isPage k_X9_192 rfl rfl rfl rfl dX9_said_1) fun r1 M2 => ?_
  refine s_ifneB (tgt := 14) dX9_said_4 (by decide) ?_ ?_
  · refine s_iconst (v := 0) dX9_said_14 ci_0 ?_
    refine s_istore_n (lv' := [(2, .int (0 : Int32)), (0, rf G 173), (1, .int a1)]) dX9_said_15 rfl rfl rfl ?_
    refine s_iconst (v := 0) dX9_said_16 ci_0 ?_
    refine s_istore_n (lv' := [(3, .int (0 : Int32)), (2, .int (0 : Int32)), (0, rf G 173), (1, .int a1)]) dX9_said_17 rfl rfl rfl ?_
    exact s_sub [0, 1, 2, 3] rfl (tX9_said_L18 l G a1 FU (0 : Int32) (0 : Int32) M2)
  · refine s_aload_n 0 dX9_said_7 rfl rfl ?_
    refine s_ldc (v := -1000000001) dX9_said_8 q_425 ?_
    refine s_call_i (s_runV (ci := 9) (rest := []) rfl rfl (mX9_refuse l G (-1000000001 : Int32) M2) ok_X9_refuse k_X9_72 rfl rfl rfl rfl dX9_said_10) fun r3 M4 => ?_
    exact s_iret rfl dX9_said_13
theorem dX9_inCase_0 : decode cX9_inCase 0 = .ok (.iload_n 1, 1) := by decide +kernel
theorem dX9_inCase_1 : decode cX9_inCase 1 = .ok (.iconst 1, 1) := by decide +kernel
theorem dX9_inCase_2 : decode cX9_inCase 2 = .ok (.bipush 26, 2) := by decide +kernel
theorem dX9_inCase_4 : decode cX9_inCase 4 = .ok (.invokestatic 83, 3) := by decide +kernel
theorem dX9_inCase_7 : decode cX9_inCase 7 = .ok (.ifCond .eq 14, 3) := by decide +kernel
theorem dX9_inCase_10 : decode cX9_inCase 10 = .ok (.aload_n 0, 1) := by decide +kernel
theorem dX9_inCase_11 : decode cX9_inCase 11 = .ok (.getfield 12, 3) := by decide +kernel
theorem dX9_inCase_14 : decode cX9_inCase 14 = .ok (.iload_n 1, 1) := by decide +kernel
theorem dX9_inCase_15 : decode cX9_inCase 15 = .ok (.invokevirtual 249, 3) := by decide +kernel
theorem dX9_inCase_18 : decode cX9_inCase 18 = .ok (.goto 9, 3) := by decide +kernel
theorem dX9_inCase_21 : decode cX9_inCase 21 = .ok (.aload_n 0, 1) := by decide +kernel
theorem dX9_inCase_22 : decode cX9_inCase 22 = .ok (.ldc 87, 2) := by decide +kernel
theorem dX9_inCase_24 : decode cX9_inCase 24 = .ok (.invokevirtual 72, 3) := by decide +kernel
theorem dX9_inCase_27 : decode cX9_inCase 27 = .ok (.ireturn, 1) := by decide +kernel
def fX9_inCase_B27 (w0 : Int32) (M : Mm) : Option (Int32 × Mm) :=
  some (w0, M)
theorem tX9_inCase_B27 (l : Launch) (G : Gx) (w0 : Int32) (M : Mm) : Sim cQi l layC G 4 cX9_inCase RX9 2 (some .int) 27 [] [.int w0] M (fX9_inCase_B27 w0 M) := by
  unfold fX9_inCase_B27
  exact s_iret rfl dX9_inCase_27
def fX9_inCase (a1 : Int32) (M : Mm) : Option (Int32 × Mm) :=
  bd (fX9_isWithin a1 (1 : Int32) (26 : Int32) M) fun r1 M2 =>
  if r1 = true then (bd (fX7_caseOf a1 M2) fun r3 M4 =>
  fX9_inCase_B27 r3 M4)
  else bd (fX9_refuse (-1000000001 : Int32) M2) fun r5 M6 =>
  fX9_inCase_B27 r5 M6
theorem mX9_inCase (l : Launch) (G : Gx) (a1 : Int32) (M : Mm) : Mt cQi l layC G 4 yX9_inCase cX9_inCase 2 (some .int) [rf G 173, .int a1] M (fX9_inCase a1 M) := by
  refine Mt.of2 (own := RX9) (lv := [(0, rf G 173), (1, .int a1)]) rfl (by decide +kernel) rfl rfl ?_
  unfold fX9_inCase
  refine s_iload_n 1 dX9_inCase_0 rfl rfl ?_
  refine s_iconst (v := 1) dX9_inCase_1 ci_1 ?_
  refine s_bipush (v := 26) dX9_inCase_2 cb_26 ?_
  refine s_call_z (s_runS (rest := []) (mX9_isWithin l G a1 (1 : Int32) (26 : Int32) M) ok_X9_isWithin k_X9_83 rfl rfl rfl rfl dX9_inCase_4) fun r1 M2 => ?_
  refine s_ifeqB (tgt := 21) dX9_inCase_7 (by decide) ?_ ?_
  · refine s_aload_n 0 dX9_inCase_21 rfl rfl ?_
    refine s_ldc (v := -1000000001) dX9_inCase_22 q_425 ?_
    refine s_call_i (s_runV (ci := 9) (rest := []) rfl rfl (mX9_refuse l G (-1000000001 : Int32) M2) ok_X9_refuse k_X9_72 rfl rfl rfl rfl dX9_inCase_24) fun r5 M6 => ?_
    exact s_sub [] rfl (tX9_inCase_B27 l G r5 M6)
  · refine s_aload_n 0 dX9_inCase_10 rfl rfl ?_
    refine g_X9_12 (q := 0) rfl rfl dX9_inCase_11 ?_
    refine s_iload_n 1 dX9_inCase_14 rfl rfl ?_
    refine s_call_i (s_runV (ci := 7) (rest := []) rfl rfl (mX7_caseOf l G a1 M2) ok_X7_caseOf k_X9_249 rfl rfl rfl rfl dX9_inCase_15) fun r3 M4 => ?_
    refine s_goto (tgt := 27) dX9_inCase_18 (by decide) ?_
    exact s_sub [] rfl (tX9_inCase_B27 l G r3 M4)
theorem dX9_days_0 : decode cX9_days 0 = .ok (.iload_n 1, 1) := by decide +kernel
theorem dX9_days_1 : decode cX9_days 1 = .ok (.iconst 1, 1) := by decide +kernel
theorem dX9_days_2 : decode cX9_days 2 = .ok (.bipush 20, 2) := by decide +kernel
theorem dX9_days_4 : decode cX9_days 4 = .ok (.invokestatic 83, 3) := by decide +kernel
theorem dX9_days_7 : decode cX9_days 7 = .ok (.ifCond .ne 10, 3) := by decide +kernel
theorem dX9_days_10 : decode cX9_days 10 = .ok (.aload_n 0, 1) := by decide +kernel
theorem dX9_days_11 : decode cX9_days 11 = .ok (.ldc 87, 2) := by decide +kernel
theorem dX9_days_13 : decode cX9_days 13 = .ok (.invokevirtual 72, 3) := by decide +kernel
theorem dX9_days_16 : decode cX9_days 16 = .ok (.ireturn, 1) := by decide +kernel
theorem dX9_days_17 : decode cX9_days 17 = .ok (.iconst 0, 1) := by decide +kernel
theorem dX9_days_18 : decode cX9_days 18 = .ok (.istore_n 2, 1) := by decide +kernel
theorem dX9_days_19 : decode cX9_days 19 = .ok (.iconst 0, 1) := by decide +kernel
theorem dX9_days_20 : decode cX9_days 20 = .ok (.istore_n 3, 1) := by decide +kernel
theorem dX9_days_21 : decode cX9_days 21 = .ok (.iload_n 3, 1) := by decide +kernel
theorem dX9_days_22 : decode cX9_days 22 = .ok (.iload_n 1, 1) := by decide +kernel
theorem dX9_days_23 : decode cX9_days 23 = .ok (.if_icmp .ge 19, 3) := by decide +kernel
theorem dX9_days_26 : decode cX9_days 26 = .ok (.iload_n 2, 1) := by decide +kernel
theorem dX9_days_27 : decode cX9_days 27 = .ok (.aload_n 0, 1) := by decide +kernel
theorem dX9_days_28 : decode cX9_days 28 = .ok (.getfield 12, 3) := by decide +kernel
theorem dX9_days_31 : decode cX9_days 31 = .ok (.invokevirtual 252, 3) := by decide +kernel
theorem dX9_days_34 : decode cX9_days 34 = .ok (.iadd, 1) := by decide +kernel
theorem dX9_days_35 : decode cX9_days 35 = .ok (.istore_n 2, 1) := by decide +kernel
theorem dX9_days_36 : decode cX9_days 36 = .ok (.iinc 3 1, 3) := by decide +kernel
theorem dX9_days_39 : decode cX9_days 39 = .ok (.goto (-18), 3) := by decide +kernel
theorem dX9_days_42 : decode cX9_days 42 = .ok (.iload_n 2, 1) := by decide +kernel
theorem dX9_days_43 : decode cX9_days 43 = .ok (.ireturn, 1) := by decide +kernel
def fX9_days_B42 (v2 : Int32) (M : Mm) : Option (Int32 × Mm) :=
  some (v2, M)
theorem tX9_days_B42 (l : Launch) (G : Gx) (v2 : Int32) (M : Mm) : Sim cQi l layC G 5 cX9_days RX9 4 (some .int) 42 [(2, .int v2)] [] M (fX9_days_B42 v2 M) := by
  unfold fX9_days_B42
  refine s_iload_n 0 dX9_days_42 rfl rfl ?_
  exact s_iret rfl dX9_days_43
def fX9_days_L21b (v1 : Int32) (q21 : Int32 → Int32 → Mm → Option (Int32 × Mm)) (v3 : Int32) (v2 : Int32) (M : Mm) : Option (Int32 × Mm) :=
  if v1 ≤ v3 then (fX9_days_B42 v2 M)
  else bd (fX7_warmDay M) fun r5 M6 =>
  lt (v2 + r5) fun x7 =>
  q21 (v3 + 1) x7 M6
def fX9_days_L21 (v1 : Int32) : Nat → Int32 → Int32 → Mm → Option (Int32 × Mm)
  | 0 => fun _ _ _ => none
  | n + 1 => fX9_days_L21b v1 (fX9_days_L21 v1 n)
theorem tX9_days_L21b (l : Launch) (G : Gx) (v1 : Int32) (q21 : Int32 → Int32 → Mm → Option (Int32 × Mm)) (hq21 : ∀ (v3 : Int32) (v2 : Int32) (M : Mm), Sim cQi l layC G 5 cX9_days RX9 4 (some .int) 21 [(3, .int v3), (2, .int v2), (0, rf G 173), (1, .int v1)] [] M (q21 v3 v2 M)) (v3 : Int32) (v2 : Int32) (M : Mm) : Sim cQi l layC G 5 cX9_days RX9 4 (some .int) 21 [(3, .int v3), (2, .int v2), (0, rf G 173), (1, .int v1)] [] M (fX9_days_L21b v1 q21 v3 v2 M) := by
  unfold fX9_days_L21b
  refine s_iload_n 0 dX9_days_21 rfl rfl ?_
  refine s_iload_n 3 dX9_days_22 rfl rfl ?_
  refine s_icmpge (tgt := 42) dX9_days_23 (by decide) ?_ ?_
  · exact s_sub [1] rfl (tX9_days_B42 l G v2 M)
  · refine s_iload_n 1 dX9_days_26 rfl rfl ?_
    refine s_aload_n 2 dX9_days_27 rfl rfl ?_
    refine g_X9_12 (q := 0) rfl rfl dX9_days_28 ?_
    refine s_call_i (s_runV (ci := 7) (rest := [.int v2]) rfl rfl (mX7_warmDay l G M) ok_X7_warmDay k_X9_252 rfl rfl rfl rfl dX9_days_31) fun r5 M6 => ?_
    refine s_iadd dX9_days_34 ?_
    refine s_leti fun x7 => ?_
    refine s_istore_n (lv' := [(2, .int x7), (3, .int v3), (0, rf G 173), (1, .int v1)]) dX9_days_35 rfl rfl rfl ?_
    refine s_iinc (k := 1) (lv' := [(3, .int (v3 + 1)), (2, .int x7), (0, rf G 173), (1, .int v1)]) dX9_days_36 rfl ci_1 rfl rfl ?_
    refine s_goto (tgt := 21) dX9_days_39 (by decide) ?_
    exact s_sub [0, 1, 2, 3] rfl (hq21 (v3 + 1) x7 M6)
theorem tX9_days_L21 (l : Launch) (G : Gx) (v1 : Int32) : ∀ (n : Nat) (v3 : Int32) (v2 : Int32) (M : Mm), Sim cQi l layC G 5 cX9_days RX9 4 (some .int) 21 [(3, .int v3), (2, .int v2), (0, rf G 173), (1, .int v1)] [] M (fX9_days_L21 v1 n v3 v2 M)
  | 0, _, _, _ => s_none
  | n + 1, v3, v2, M => tX9_days_L21b l G v1 _ (tX9_days_L21 l G v1 n) v3 v2 M
def fX9_days (a1 : Int32) (M : Mm) : Option (Int32 × Mm) :=
  bd (fX9_isWithin a1 (1 : Int32) (20 : Int32) M) fun r1 M2 =>
  if r1 = true then (fX9_days_L21 a1 FU (0 : Int32) (0 : Int32) M2)
  else bd (fX9_refuse (-1000000001 : Int32) M2) fun r3 M4 =>
  some (r3, M4)
theorem mX9_days (l : Launch) (G : Gx) (a1 : Int32) (M : Mm) : Mt cQi l layC G 5 yX9_days cX9_days 4 (some .int) [rf G 173, .int a1] M (fX9_days a1 M) := by
  refine Mt.of2 (own := RX9) (lv := [(0, rf G 173), (1, .int a1)]) rfl (by decide +kernel) rfl rfl ?_
  unfold fX9_days
  refine s_iload_n 1 dX9_days_0 rfl rfl ?_
  refine s_iconst (v := 1) dX9_days_1 ci_1 ?_
  refine s_bipush (v := 20) dX9_days_2 cb_20 ?_
  refine s_call_z (s_runS (rest := []) (mX9_isWithin l G a1 (1 : Int32) (20 : Int32) M) ok_X9_isWithin k_X9_83 rfl rfl rfl rfl dX9_days_4) fun r1 M2 => ?_
  refine s_ifneB (tgt := 17) dX9_days_7 (by decide) ?_ ?_
  · refine s_iconst (v := 0) dX9_days_17 ci_0 ?_
    refine s_istore_n (lv' := [(2, .int (0 : Int32)), (0, rf G 173), (1, .int a1)]) dX9_days_18 rfl rfl rfl ?_
    refine s_iconst (v := 0) dX9_days_19 ci_0 ?_
    refine s_istore_n (lv' := [(3, .int (0 : Int32)), (2, .int (0 : Int32)), (0, rf G 173), (1, .int a1)]) dX9_days_20 rfl rfl rfl ?_
    exact s_sub [0, 1, 2, 3] rfl (tX9_days_L21 l G a1 FU (0 : Int32) (0 : Int32) M2)
  · refine s_aload_n 0 dX9_days_10 rfl rfl ?_
    refine s_ldc (v := -1000000001) dX9_days_11 q_425 ?_
    refine s_call_i (s_runV (ci := 9) (rest := []) rfl rfl (mX9_refuse l G (-1000000001 : Int32) M2) ok_X9_refuse k_X9_72 rfl rfl rfl rfl dX9_days_13) fun r3 M4 => ?_
    exact s_iret rfl dX9_days_16
theorem dX9_seed_0 : decode cX9_seed 0 = .ok (.aload_n 0, 1) := by decide +kernel
theorem dX9_seed_1 : decode cX9_seed 1 = .ok (.getfield 12, 3) := by decide +kernel
theorem dX9_seed_4 : decode cX9_seed 4 = .ok (.getfield 255, 3) := by decide +kernel
theorem dX9_seed_7 : decode cX9_seed 7 = .ok (.istore_n 2, 1) := by decide +kernel
theorem dX9_seed_8 : decode cX9_seed 8 = .ok (.aload_n 0, 1) := by decide +kernel
theorem dX9_seed_9 : decode cX9_seed 9 = .ok (.getfield 12, 3) := by decide +kernel
theorem dX9_seed_12 : decode cX9_seed 12 = .ok (.iload_n 1, 1) := by decide +kernel
theorem dX9_seed_13 : decode cX9_seed 13 = .ok (.putfield 255, 3) := by decide +kernel
theorem dX9_seed_16 : decode cX9_seed 16 = .ok (.iload_n 2, 1) := by decide +kernel
theorem dX9_seed_17 : decode cX9_seed 17 = .ok (.ireturn, 1) := by decide +kernel
def fX9_seed (a1 : Int32) (M : Mm) : Option (Int32 × Mm) :=
  lt (M 0 4) fun x1 =>
  lt (wr M 0 4 a1) fun M2 =>
  some (x1, M2)
theorem mX9_seed (l : Launch) (G : Gx) (a1 : Int32) (M : Mm) : Mt cQi l layC G 1 yX9_seed cX9_seed 3 (some .int) [rf G 173, .int a1] M (fX9_seed a1 M) := by
  refine Mt.of2 (own := RX9) (lv := [(0, rf G 173), (1, .int a1)]) rfl (by decide +kernel) rfl rfl ?_
  unfold fX9_seed
  refine s_aload_n 0 dX9_seed_0 rfl rfl ?_
  refine g_X9_12 (q := 0) rfl rfl dX9_seed_1 ?_
  refine g_X9_255 rfl dX9_seed_4 ?_
  refine s_leti fun x1 => ?_
  refine s_istore_n (lv' := [(2, .int x1), (0, rf G 173), (1, .int a1)]) dX9_seed_7 rfl rfl rfl ?_
  refine s_aload_n 1 dX9_seed_8 rfl rfl ?_
  refine g_X9_12 (q := 0) rfl rfl dX9_seed_9 ?_
  refine s_iload_n 2 dX9_seed_12 rfl rfl ?_
  refine p_X9_255 rfl dX9_seed_13 ?_
  refine s_letM fun M2 => ?_
  refine s_iload_n 0 dX9_seed_16 rfl rfl ?_
  exact s_iret rfl dX9_seed_17
theorem dX9_voice_0 : decode cX9_voice 0 = .ok (.aload_n 0, 1) := by decide +kernel
theorem dX9_voice_1 : decode cX9_voice 1 = .ok (.getfield 12, 3) := by decide +kernel
theorem dX9_voice_4 : decode cX9_voice 4 = .ok (.iload_n 1, 1) := by decide +kernel
theorem dX9_voice_5 : decode cX9_voice 5 = .ok (.invokevirtual 79, 3) := by decide +kernel
theorem dX9_voice_8 : decode cX9_voice 8 = .ok (.ifCond .eq 12, 3) := by decide +kernel
theorem dX9_voice_11 : decode cX9_voice 11 = .ok (.iload_n 2, 1) := by decide +kernel
theorem dX9_voice_12 : decode cX9_voice 12 = .ok (.iconst 0, 1) := by decide +kernel
theorem dX9_voice_13 : decode cX9_voice 13 = .ok (.iconst 3, 1) := by decide +kernel
theorem dX9_voice_14 : decode cX9_voice 14 = .ok (.invokestatic 83, 3) := by decide +kernel
theorem dX9_voice_17 : decode cX9_voice 17 = .ok (.ifCond .ne 10, 3) := by decide +kernel
theorem dX9_voice_20 : decode cX9_voice 20 = .ok (.aload_n 0, 1) := by decide +kernel
theorem dX9_voice_21 : decode cX9_voice 21 = .ok (.ldc 87, 2) := by decide +kernel
theorem dX9_voice_23 : decode cX9_voice 23 = .ok (.invokevirtual 72, 3) := by decide +kernel
theorem dX9_voice_26 : decode cX9_voice 26 = .ok (.ireturn, 1) := by decide +kernel
theorem dX9_voice_27 : decode cX9_voice 27 = .ok (.aload_n 0, 1) := by decide +kernel
theorem dX9_voice_28 : decode cX9_voice 28 = .ok (.getfield 53, 3) := by decide +kernel
theorem dX9_voice_31 : decode cX9_voice 31 = .ok (.aload_n 0, 1) := by decide +kernel
theorem dX9_voice_32 : decode cX9_voice 32 = .ok (.getfield 12, 3) := by decide +kernel
theorem dX9_voice_35 : decode cX9_voice 35 = .ok (.getfield 88, 3) := by decide +kernel
theorem dX9_voice_38 : decode cX9_voice 38 = .ok (.iload_n 1, 1) := by decide +kernel
theorem dX9_voice_39 : decode cX9_voice 39 = .ok (.aaload, 1) := by decide +kernel
theorem dX9_voice_40 : decode cX9_voice 40 = .ok (.iload_n 1, 1) := by decide +kernel
theorem dX9_voice_41 : decode cX9_voice 41 = .ok (.iload_n 2, 1) := by decide +kernel
theorem dX9_voice_42 : decode cX9_voice 42 = .ok (.iload_n 3, 1) := by decide +kernel
theorem dX9_voice_43 : decode cX9_voice 43 = .ok (.invokevirtual 258, 3) := by decide +kernel
theorem dX9_voice_46 : decode cX9_voice 46 = .ok (.istore 4, 2) := by decide +kernel
theorem dX9_voice_48 : decode cX9_voice 48 = .ok (.aload_n 0, 1) := by decide +kernel
theorem dX9_voice_49 : decode cX9_voice 49 = .ok (.getfield 53, 3) := by decide +kernel
theorem dX9_voice_52 : decode cX9_voice 52 = .ok (.getfield 262, 3) := by decide +kernel
theorem dX9_voice_55 : decode cX9_voice 55 = .ok (.ifCond .eq 13, 3) := by decide +kernel
theorem dX9_voice_58 : decode cX9_voice 58 = .ok (.aload_n 0, 1) := by decide +kernel
theorem dX9_voice_59 : decode cX9_voice 59 = .ok (.ldc_w 266, 3) := by decide +kernel
theorem dX9_voice_62 : decode cX9_voice 62 = .ok (.invokevirtual 72, 3) := by decide +kernel
theorem dX9_voice_65 : decode cX9_voice 65 = .ok (.goto 5, 3) := by decide +kernel
theorem dX9_voice_68 : decode cX9_voice 68 = .ok (.iload 4, 2) := by decide +kernel
theorem dX9_voice_70 : decode cX9_voice 70 = .ok (.ireturn, 1) := by decide +kernel
def fX9_voice_B20 (M : Mm) : Option (Int32 × Mm) :=
  bd (fX9_refuse (-1000000001 : Int32) M) fun r5 M6 =>
  some (r5, M6)
theorem tX9_voice_B20 (l : Launch) (G : Gx) (M : Mm) : Sim cQi l layC G 50 cX9_voice RX9 5 (some .int) 20 [(0, rf G 173)] [] M (fX9_voice_B20 M) := by
  unfold fX9_voice_B20
  refine s_aload_n 0 dX9_voice_20 rfl rfl ?_
  refine s_ldc (v := -1000000001) dX9_voice_21 q_425 ?_
  refine s_call_i (s_runV (ci := 9) (rest := []) rfl rfl (mX9_refuse l G (-1000000001 : Int32) M) ok_X9_refuse k_X9_72 rfl rfl rfl rfl dX9_voice_23) fun r5 M6 => ?_
  exact s_iret rfl dX9_voice_26
def fX9_voice_B70 (w0 : Int32) (M : Mm) : Option (Int32 × Mm) :=
  some (w0, M)
theorem tX9_voice_B70 (l : Launch) (G : Gx) (w0 : Int32) (M : Mm) : Sim cQi l layC G 50 cX9_voice RX9 5 (some .int) 70 [] [.int w0] M (fX9_voice_B70 w0 M) := by
  unfold fX9_voice_B70
  exact s_iret rfl dX9_voice_70
def fX9_voice (a1 : Int32) (a2 : Int32) (a3 : Int32) (M : Mm) : Option (Int32 × Mm) :=
  bd (fX7_hasLetter a1 M) fun r1 M2 =>
  if r1 = true then (bd (fX9_isWithin a2 (0 : Int32) (3 : Int32) M2) fun r3 M4 =>
  if r3 = true then (gd (inb a1 24) <|
  bd (fX8_hear (4 + 1 * ix a1) a1 a2 a3 M4) fun r8 M9 =>
  if (M9 156 1) = 0 then (fX9_voice_B70 r8 M9)
  else bd (fX9_refuse (-1000000006 : Int32) M9) fun r10 M11 =>
  fX9_voice_B70 r10 M11)
  else fX9_voice_B20 M4)
  else fX9_voice_B20 M2
theorem mX9_voice (l : Launch) (G : Gx) (a1 : Int32) (a2 : Int32) (a3 : Int32) (M : Mm) : Mt cQi l layC G 50 yX9_voice cX9_voice 5 (some .int) [rf G 173, .int a1, .int a2, .int a3] M (fX9_voice a1 a2 a3 M) := by
  refine Mt.of2 (own := RX9) (lv := [(0, rf G 173), (1, .int a1), (2, .int a2), (3, .int a3)]) rfl (by decide +kernel) rfl rfl ?_
  unfold fX9_voice
  refine s_aload_n 0 dX9_voice_0 rfl rfl ?_
  refine g_X9_12 (q := 0) rfl rfl dX9_voice_1 ?_
  refine s_iload_n 1 dX9_voice_4 rfl rfl ?_
  refine s_call_z (s_runV (ci := 7) (rest := []) rfl rfl (mX7_hasLetter l G a1 M) ok_X7_hasLetter k_X9_79 rfl rfl rfl rfl dX9_voice_5) fun r1 M2 => ?_
  refine s_ifeqB (tgt := 20) dX9_voice_8 (by decide) ?_ ?_
  · exact s_sub [0] rfl (tX9_voice_B20 l G M2)
  · refine s_iload_n 2 dX9_voice_11 rfl rfl ?_
    refine s_iconst (v := 0) dX9_voice_12 ci_0 ?_
    refine s_iconst (v := 3) dX9_voice_13 ci_3 ?_
    refine s_call_z (s_runS (rest := []) (mX9_isWithin l G a2 (0 : Int32) (3 : Int32) M2) ok_X9_isWithin k_X9_83 rfl rfl rfl rfl dX9_voice_14) fun r3 M4 => ?_
    refine s_ifneB (tgt := 27) dX9_voice_17 (by decide) ?_ ?_
    · refine s_aload_n 0 dX9_voice_27 rfl rfl ?_
      refine g_X9_53 (q := 156) rfl rfl dX9_voice_28 ?_
      refine s_aload_n 0 dX9_voice_31 rfl rfl ?_
      refine g_X9_12 (q := 0) rfl rfl dX9_voice_32 ?_
      refine g_X9_88 (q := 3) rfl rfl dX9_voice_35 ?_
      refine s_iload_n 1 dX9_voice_38 rfl rfl ?_
      refine s_gd fun h7 => ?_
      refine s_aald (t := 1) (bs := 4) (sd := 1) (n := 24) rfl rfl h7 dX9_voice_39 ?_
      refine s_iload_n 1 dX9_voice_40 rfl rfl ?_
      refine s_iload_n 2 dX9_voice_41 rfl rfl ?_
      refine s_iload_n 3 dX9_voice_42 rfl rfl ?_
      refine s_call_i (s_runV (ci := 8) (rest := []) rfl rfl (mX8_hear l G (4 + 1 * ix a1) a1 a2 a3 M4) ok_X8_hear k_X9_258 rfl rfl rfl rfl dX9_voice_43) fun r8 M9 => ?_
      refine s_istore (lv' := [(4, .int r8), (0, rf G 173), (1, .int a1), (2, .int a2), (3, .int a3)]) dX9_voice_46 rfl rfl ?_
      refine s_aload_n 1 dX9_voice_48 rfl rfl ?_
      refine g_X9_53 (q := 156) rfl rfl dX9_voice_49 ?_
      refine g_X9_262 rfl dX9_voice_52 ?_
      refine s_ifeq (tgt := 68) dX9_voice_55 (by decide) ?_ ?_
      · refine s_iload 0 dX9_voice_68 rfl ?_
        exact s_sub [] rfl (tX9_voice_B70 l G r8 M9)
      · refine s_aload_n 1 dX9_voice_58 rfl rfl ?_
        refine s_ldcw (v := -1000000006) dX9_voice_59 q_887 ?_
        refine s_call_i (s_runV (ci := 9) (rest := []) rfl rfl (mX9_refuse l G (-1000000006 : Int32) M9) ok_X9_refuse k_X9_72 rfl rfl rfl rfl dX9_voice_62) fun r10 M11 => ?_
        refine s_goto (tgt := 70) dX9_voice_65 (by decide) ?_
        exact s_sub [] rfl (tX9_voice_B70 l G r10 M11)
    · exact s_sub [0] rfl (tX9_voice_B20 l G M4)
theorem dX9_body_0 : decode cX9_body 0 = .ok (.iload_n 1, 1) := by decide +kernel
theorem dX9_body_1 : decode cX9_body 1 = .ok (.iconst 0, 1) := by decide +kernel
theorem dX9_body_2 : decode cX9_body 2 = .ok (.aload_n 0, 1) := by decide +kernel
theorem dX9_body_3 : decode cX9_body 3 = .ok (.getfield 53, 3) := by decide +kernel
theorem dX9_body_6 : decode cX9_body 6 = .ok (.getfield 267, 3) := by decide +kernel
theorem dX9_body_9 : decode cX9_body 9 = .ok (.getfield 141, 3) := by decide +kernel
theorem dX9_body_12 : decode cX9_body 12 = .ok (.iconst 1, 1) := by decide +kernel
theorem dX9_body_13 : decode cX9_body 13 = .ok (.isub, 1) := by decide +kernel
theorem dX9_body_14 : decode cX9_body 14 = .ok (.invokestatic 83, 3) := by decide +kernel
theorem dX9_body_17 : decode cX9_body 17 = .ok (.ifCond .eq 17, 3) := by decide +kernel
theorem dX9_body_20 : decode cX9_body 20 = .ok (.aload_n 0, 1) := by decide +kernel
theorem dX9_body_21 : decode cX9_body 21 = .ok (.getfield 53, 3) := by decide +kernel
theorem dX9_body_24 : decode cX9_body 24 = .ok (.getfield 267, 3) := by decide +kernel
theorem dX9_body_27 : decode cX9_body 27 = .ok (.iload_n 1, 1) := by decide +kernel
theorem dX9_body_28 : decode cX9_body 28 = .ok (.invokevirtual 207, 3) := by decide +kernel
theorem dX9_body_31 : decode cX9_body 31 = .ok (.goto 9, 3) := by decide +kernel
theorem dX9_body_34 : decode cX9_body 34 = .ok (.aload_n 0, 1) := by decide +kernel
theorem dX9_body_35 : decode cX9_body 35 = .ok (.ldc 223, 2) := by decide +kernel
theorem dX9_body_37 : decode cX9_body 37 = .ok (.invokevirtual 72, 3) := by decide +kernel
theorem dX9_body_40 : decode cX9_body 40 = .ok (.ireturn, 1) := by decide +kernel
def fX9_body_B40 (w0 : Int32) (M : Mm) : Option (Int32 × Mm) :=
  some (w0, M)
theorem tX9_body_B40 (l : Launch) (G : Gx) (w0 : Int32) (M : Mm) : Sim cQi l layC G 3 cX9_body RX9 2 (some .int) 40 [] [.int w0] M (fX9_body_B40 w0 M) := by
  unfold fX9_body_B40
  exact s_iret rfl dX9_body_40
def fX9_body (a1 : Int32) (M : Mm) : Option (Int32 × Mm) :=
  bd (fX9_isWithin a1 (0 : Int32) ((M 157 1) - (1 : Int32)) M) fun r1 M2 =>
  if r1 = true then (bd (fX5_at 157 a1 M2) fun r3 M4 =>
  fX9_body_B40 r3 M4)
  else bd (fX9_refuse (-1000000002 : Int32) M2) fun r5 M6 =>
  fX9_body_B40 r5 M6
theorem mX9_body (l : Launch) (G : Gx) (a1 : Int32) (M : Mm) : Mt cQi l layC G 3 yX9_body cX9_body 2 (some .int) [rf G 173, .int a1] M (fX9_body a1 M) := by
  refine Mt.of2 (own := RX9) (lv := [(0, rf G 173), (1, .int a1)]) rfl (by decide +kernel) rfl rfl ?_
  unfold fX9_body
  refine s_iload_n 1 dX9_body_0 rfl rfl ?_
  refine s_iconst (v := 0) dX9_body_1 ci_0 ?_
  refine s_aload_n 0 dX9_body_2 rfl rfl ?_
  refine g_X9_53 (q := 156) rfl rfl dX9_body_3 ?_
  refine g_X9_267 (q := 157) rfl rfl dX9_body_6 ?_
  refine g_X9_141 rfl dX9_body_9 ?_
  refine s_iconst (v := 1) dX9_body_12 ci_1 ?_
  refine s_isub dX9_body_13 ?_
  refine s_call_z (s_runS (rest := []) (mX9_isWithin l G a1 (0 : Int32) ((M 157 1) - (1 : Int32)) M) ok_X9_isWithin k_X9_83 rfl rfl rfl rfl dX9_body_14) fun r1 M2 => ?_
  refine s_ifeqB (tgt := 34) dX9_body_17 (by decide) ?_ ?_
  · refine s_aload_n 0 dX9_body_34 rfl rfl ?_
    refine s_ldc (v := -1000000002) dX9_body_35 q_779 ?_
    refine s_call_i (s_runV (ci := 9) (rest := []) rfl rfl (mX9_refuse l G (-1000000002 : Int32) M2) ok_X9_refuse k_X9_72 rfl rfl rfl rfl dX9_body_37) fun r5 M6 => ?_
    exact s_sub [] rfl (tX9_body_B40 l G r5 M6)
  · refine s_aload_n 0 dX9_body_20 rfl rfl ?_
    refine g_X9_53 (q := 156) rfl rfl dX9_body_21 ?_
    refine g_X9_267 (q := 157) rfl rfl dX9_body_24 ?_
    refine s_iload_n 1 dX9_body_27 rfl rfl ?_
    refine s_call_i (s_runV (ci := 5) (rest := []) rfl rfl (mX5_at l G 157 a1 M2) ok_X5_at k_X9_207 rfl rfl rfl rfl dX9_body_28) fun r3 M4 => ?_
    refine s_goto (tgt := 40) dX9_body_31 (by decide) ?_
    exact s_sub [] rfl (tX9_body_B40 l G r3 M4)
theorem dX9_sheet_0 : decode cX9_sheet 0 = .ok (.iload_n 1, 1) := by decide +kernel
theorem dX9_sheet_1 : decode cX9_sheet 1 = .ok (.invokestatic 270, 3) := by decide +kernel
theorem dX9_sheet_4 : decode cX9_sheet 4 = .ok (.ifCond .eq 25, 3) := by decide +kernel
theorem dX9_sheet_7 : decode cX9_sheet 7 = .ok (.iload_n 2, 1) := by decide +kernel
theorem dX9_sheet_8 : decode cX9_sheet 8 = .ok (.ifCond .eq 28, 3) := by decide +kernel
theorem dX9_sheet_11 : decode cX9_sheet 11 = .ok (.iload_n 2, 1) := by decide +kernel
theorem dX9_sheet_12 : decode cX9_sheet 12 = .ok (.bipush 8, 2) := by decide +kernel
theorem dX9_sheet_14 : decode cX9_sheet 14 = .ok (.if_icmp .eq 22, 3) := by decide +kernel
theorem dX9_sheet_17 : decode cX9_sheet 17 = .ok (.iload_n 2, 1) := by decide +kernel
theorem dX9_sheet_18 : decode cX9_sheet 18 = .ok (.bipush 16, 2) := by decide +kernel
theorem dX9_sheet_20 : decode cX9_sheet 20 = .ok (.if_icmp .eq 16, 3) := by decide +kernel
theorem dX9_sheet_23 : decode cX9_sheet 23 = .ok (.iload_n 2, 1) := by decide +kernel
theorem dX9_sheet_24 : decode cX9_sheet 24 = .ok (.bipush 32, 2) := by decide +kernel
theorem dX9_sheet_26 : decode cX9_sheet 26 = .ok (.if_icmp .eq 10, 3) := by decide +kernel
theorem dX9_sheet_29 : decode cX9_sheet 29 = .ok (.aload_n 0, 1) := by decide +kernel
theorem dX9_sheet_30 : decode cX9_sheet 30 = .ok (.ldc 87, 2) := by decide +kernel
theorem dX9_sheet_32 : decode cX9_sheet 32 = .ok (.invokevirtual 72, 3) := by decide +kernel
theorem dX9_sheet_35 : decode cX9_sheet 35 = .ok (.ireturn, 1) := by decide +kernel
theorem dX9_sheet_36 : decode cX9_sheet 36 = .ok (.iload_n 2, 1) := by decide +kernel
theorem dX9_sheet_37 : decode cX9_sheet 37 = .ok (.ifCond .eq 14, 3) := by decide +kernel
theorem dX9_sheet_40 : decode cX9_sheet 40 = .ok (.iload_n 3, 1) := by decide +kernel
theorem dX9_sheet_41 : decode cX9_sheet 41 = .ok (.ifCond .ge 10, 3) := by decide +kernel
theorem dX9_sheet_44 : decode cX9_sheet 44 = .ok (.aload_n 0, 1) := by decide +kernel
theorem dX9_sheet_45 : decode cX9_sheet 45 = .ok (.ldc 120, 2) := by decide +kernel
theorem dX9_sheet_47 : decode cX9_sheet 47 = .ok (.invokevirtual 72, 3) := by decide +kernel
theorem dX9_sheet_50 : decode cX9_sheet 50 = .ok (.ireturn, 1) := by decide +kernel
theorem dX9_sheet_51 : decode cX9_sheet 51 = .ok (.iload_n 2, 1) := by decide +kernel
theorem dX9_sheet_52 : decode cX9_sheet 52 = .ok (.ifCond .eq 16, 3) := by decide +kernel
theorem dX9_sheet_55 : decode cX9_sheet 55 = .ok (.iload_n 3, 1) := by decide +kernel
theorem dX9_sheet_56 : decode cX9_sheet 56 = .ok (.bipush 24, 2) := by decide +kernel
theorem dX9_sheet_58 : decode cX9_sheet 58 = .ok (.if_icmp .le 10, 3) := by decide +kernel
theorem dX9_sheet_61 : decode cX9_sheet 61 = .ok (.aload_n 0, 1) := by decide +kernel
theorem dX9_sheet_62 : decode cX9_sheet 62 = .ok (.ldc 87, 2) := by decide +kernel
theorem dX9_sheet_64 : decode cX9_sheet 64 = .ok (.invokevirtual 72, 3) := by decide +kernel
theorem dX9_sheet_67 : decode cX9_sheet 67 = .ok (.ireturn, 1) := by decide +kernel
theorem dX9_sheet_68 : decode cX9_sheet 68 = .ok (.aload_n 0, 1) := by decide +kernel
theorem dX9_sheet_69 : decode cX9_sheet 69 = .ok (.getfield 59, 3) := by decide +kernel
theorem dX9_sheet_72 : decode cX9_sheet 72 = .ok (.iload_n 1, 1) := by decide +kernel
theorem dX9_sheet_73 : decode cX9_sheet 73 = .ok (.aaload, 1) := by decide +kernel
theorem dX9_sheet_74 : decode cX9_sheet 74 = .ok (.iload_n 2, 1) := by decide +kernel
theorem dX9_sheet_75 : decode cX9_sheet 75 = .ok (.putfield 273, 3) := by decide +kernel
theorem dX9_sheet_78 : decode cX9_sheet 78 = .ok (.aload_n 0, 1) := by decide +kernel
theorem dX9_sheet_79 : decode cX9_sheet 79 = .ok (.getfield 59, 3) := by decide +kernel
theorem dX9_sheet_82 : decode cX9_sheet 82 = .ok (.iload_n 1, 1) := by decide +kernel
theorem dX9_sheet_83 : decode cX9_sheet 83 = .ok (.aaload, 1) := by decide +kernel
theorem dX9_sheet_84 : decode cX9_sheet 84 = .ok (.getfield 276, 3) := by decide +kernel
theorem dX9_sheet_87 : decode cX9_sheet 87 = .ok (.iload_n 2, 1) := by decide +kernel
theorem dX9_sheet_88 : decode cX9_sheet 88 = .ok (.ifCond .ne 7, 3) := by decide +kernel
theorem dX9_sheet_91 : decode cX9_sheet 91 = .ok (.iconst 0, 1) := by decide +kernel
theorem dX9_sheet_92 : decode cX9_sheet 92 = .ok (.goto 4, 3) := by decide +kernel
theorem dX9_sheet_95 : decode cX9_sheet 95 = .ok (.iload_n 3, 1) := by decide +kernel
theorem dX9_sheet_96 : decode cX9_sheet 96 = .ok (.invokevirtual 279, 3) := by decide +kernel
theorem dX9_sheet_99 : decode cX9_sheet 99 = .ok (.iconst 1, 1) := by decide +kernel
theorem dX9_sheet_100 : decode cX9_sheet 100 = .ok (.ireturn, 1) := by decide +kernel
def fX9_sheet_B96 (w0 : Int32) (w1 : Nat) (M : Mm) : Option (Int32 × Mm) :=
  gd (isC layC w1 5) <|
  bd (fX5_beZeros w1 w0 M) fun r7 M8 =>
  some ((1 : Int32), M8)
theorem tX9_sheet_B96 (l : Launch) (G : Gx) (w0 : Int32) (w1 : Nat) (M : Mm) : Sim cQi l layC G 3 cX9_sheet RX9 4 (some .int) 96 [] [.int w0, rf G w1] M (fX9_sheet_B96 w0 w1 M) := by
  unfold fX9_sheet_B96
  refine s_gd fun h6 => ?_
  refine s_call_v (s_runV (ci := 5) (rest := []) h6 rfl (mX5_beZeros l G w1 w0 M) ok_X5_beZeros k_X9_279 rfl rfl rfl rfl dX9_sheet_96) fun r7 M8 => ?_
  refine s_iconst (v := 1) dX9_sheet_99 ci_1 ?_
  exact s_iret rfl dX9_sheet_100
def fX9_sheet_B68 (v1 : Int32) (v2 : Int32) (v3 : Int32) (M : Mm) : Option (Int32 × Mm) :=
  gd (inb v1 4) <|
  gd (isC layC (160 + 3 * ix v1) 4) <|
  lt (wr M (160 + 3 * ix v1) 1 v2) fun M5 =>
  if v2 = 0 then (fX9_sheet_B96 (0 : Int32) (fR layC (160 + 3 * ix v1) 0) M5)
  else fX9_sheet_B96 v3 (fR layC (160 + 3 * ix v1) 0) M5
theorem tX9_sheet_B68 (l : Launch) (G : Gx) (v1 : Int32) (v2 : Int32) (v3 : Int32) (M : Mm) : Sim cQi l layC G 3 cX9_sheet RX9 4 (some .int) 68 [(0, rf G 173), (1, .int v1), (2, .int v2), (3, .int v3)] [] M (fX9_sheet_B68 v1 v2 v3 M) := by
  unfold fX9_sheet_B68
  refine s_aload_n 0 dX9_sheet_68 rfl rfl ?_
  refine g_X9_59 (q := 159) rfl rfl dX9_sheet_69 ?_
  refine s_iload_n 1 dX9_sheet_72 rfl rfl ?_
  refine s_gd fun h3 => ?_
  refine s_aald (t := 3) (bs := 160) (sd := 3) (n := 4) rfl rfl h3 dX9_sheet_73 ?_
  refine s_iload_n 2 dX9_sheet_74 rfl rfl ?_
  refine s_gd fun h4 => ?_
  refine p_X9_273 h4 dX9_sheet_75 ?_
  refine s_letM fun M5 => ?_
  refine s_aload_n 0 dX9_sheet_78 rfl rfl ?_
  refine g_X9_59 (q := 159) rfl rfl dX9_sheet_79 ?_
  refine s_iload_n 1 dX9_sheet_82 rfl rfl ?_
  refine s_aald (t := 3) (bs := 160) (sd := 3) (n := 4) rfl rfl h3 dX9_sheet_83 ?_
  refine g_X9_276 (q := fR layC (160 + 3 * ix v1) 0) h4 rfl dX9_sheet_84 ?_
  refine s_iload_n 2 dX9_sheet_87 rfl rfl ?_
  refine s_ifne (tgt := 95) dX9_sheet_88 (by decide) ?_ ?_
  · refine s_iload_n 3 dX9_sheet_95 rfl rfl ?_
    exact s_sub [] rfl (tX9_sheet_B96 l G v3 (fR layC (160 + 3 * ix v1) 0) M5)
  · refine s_iconst (v := 0) dX9_sheet_91 ci_0 ?_
    refine s_goto (tgt := 96) dX9_sheet_92 (by decide) ?_
    exact s_sub [] rfl (tX9_sheet_B96 l G (0 : Int32) (fR layC (160 + 3 * ix v1) 0) M5)
def fX9_sheet_B51 (v1 : Int32) (v2 : Int32) (v3 : Int32) (M : Mm) : Option (Int32 × Mm) :=
  if v2 = 0 then (fX9_sheet_B68 v1 v2 v3 M)
  else if v3 ≤ (24 : Int32) then (fX9_sheet_B68 v1 v2 v3 M)
  else bd (fX9_refuse (-1000000001 : Int32) M) fun r9 M10 =>
  some (r9, M10)
theorem tX9_sheet_B51 (l : Launch) (G : Gx) (v1 : Int32) (v2 : Int32) (v3 : Int32) (M : Mm) : Sim cQi l layC G 3 cX9_sheet RX9 4 (some .int) 51 [(0, rf G 173), (1, .int v1), (2, .int v2), (3, .int v3)] [] M (fX9_sheet_B51 v1 v2 v3 M) := by
  unfold fX9_sheet_B51
  refine s_iload_n 2 dX9_sheet_51 rfl rfl ?_
  refine s_ifeq (tgt := 68) dX9_sheet_52 (by decide) ?_ ?_
  · exact s_sub [0, 1, 2, 3] rfl (tX9_sheet_B68 l G v1 v2 v3 M)
  · refine s_iload_n 3 dX9_sheet_55 rfl rfl ?_
    refine s_bipush (v := 24) dX9_sheet_56 cb_24 ?_
    refine s_icmple (tgt := 68) dX9_sheet_58 (by decide) ?_ ?_
    · exact s_sub [0, 1, 2, 3] rfl (tX9_sheet_B68 l G v1 v2 v3 M)
    · refine s_aload_n 0 dX9_sheet_61 rfl rfl ?_
      refine s_ldc (v := -1000000001) dX9_sheet_62 q_425 ?_
      refine s_call_i (s_runV (ci := 9) (rest := []) rfl rfl (mX9_refuse l G (-1000000001 : Int32) M) ok_X9_refuse k_X9_72 rfl rfl rfl rfl dX9_sheet_64) fun r9 M10 => ?_
      exact s_iret rfl dX9_sheet_67
def fX9_sheet_B36 (v1 : Int32) (v2 : Int32) (v3 : Int32) (M : Mm) : Option (Int32 × Mm) :=
  if v2 = 0 then (fX9_sheet_B51 v1 v2 v3 M)
  else if 0 ≤ v3 then (fX9_sheet_B51 v1 v2 v3 M)
  else bd (fX9_refuse (-1000000003 : Int32) M) fun r11 M12 =>
  some (r11, M12)
theorem tX9_sheet_B36 (l : Launch) (G : Gx) (v1 : Int32) (v2 : Int32) (v3 : Int32) (M : Mm) : Sim cQi l layC G 3 cX9_sheet RX9 4 (some .int) 36 [(0, rf G 173), (1, .int v1), (2, .int v2), (3, .int v3)] [] M (fX9_sheet_B36 v1 v2 v3 M) := by
  unfold fX9_sheet_B36
  refine s_iload_n 2 dX9_sheet_36 rfl rfl ?_
  refine s_ifeq (tgt := 51) dX9_sheet_37 (by decide) ?_ ?_
  · exact s_sub [0, 1, 2, 3] rfl (tX9_sheet_B51 l G v1 v2 v3 M)
  · refine s_iload_n 3 dX9_sheet_40 rfl rfl ?_
    refine s_ifge (tgt := 51) dX9_sheet_41 (by decide) ?_ ?_
    · exact s_sub [0, 1, 2, 3] rfl (tX9_sheet_B51 l G v1 v2 v3 M)
    · refine s_aload_n 0 dX9_sheet_44 rfl rfl ?_
      refine s_ldc (v := -1000000003) dX9_sheet_45 q_493 ?_
      refine s_call_i (s_runV (ci := 9) (rest := []) rfl rfl (mX9_refuse l G (-1000000003 : Int32) M) ok_X9_refuse k_X9_72 rfl rfl rfl rfl dX9_sheet_47) fun r11 M12 => ?_
      exact s_iret rfl dX9_sheet_50
def fX9_sheet_B29 (M : Mm) : Option (Int32 × Mm) :=
  bd (fX9_refuse (-1000000001 : Int32) M) fun r13 M14 =>
  some (r13, M14)
theorem tX9_sheet_B29 (l : Launch) (G : Gx) (M : Mm) : Sim cQi l layC G 3 cX9_sheet RX9 4 (some .int) 29 [(0, rf G 173)] [] M (fX9_sheet_B29 M) := by
  unfold fX9_sheet_B29
  refine s_aload_n 0 dX9_sheet_29 rfl rfl ?_
  refine s_ldc (v := -1000000001) dX9_sheet_30 q_425 ?_
  refine s_call_i (s_runV (ci := 9) (rest := []) rfl rfl (mX9_refuse l G (-1000000001 : Int32) M) ok_X9_refuse k_X9_72 rfl rfl rfl rfl dX9_sheet_32) fun r13 M14 => ?_
  exact s_iret rfl dX9_sheet_35
def fX9_sheet (a1 : Int32) (a2 : Int32) (a3 : Int32) (M : Mm) : Option (Int32 × Mm) :=
  bd (fX9_isPlate a1 M) fun r1 M2 =>
  if r1 = true then (if a2 = 0 then (fX9_sheet_B36 a1 a2 a3 M2)
  else if a2 = (8 : Int32) then (fX9_sheet_B36 a1 a2 a3 M2)
  else if a2 = (16 : Int32) then (fX9_sheet_B36 a1 a2 a3 M2)
  else if a2 = (32 : Int32) then (fX9_sheet_B36 a1 a2 a3 M2)
  else fX9_sheet_B29 M2)
  else fX9_sheet_B29 M2
theorem mX9_sheet (l : Launch) (G : Gx) (a1 : Int32) (a2 : Int32) (a3 : Int32) (M : Mm) : Mt cQi l layC G 3 yX9_sheet cX9_sheet 4 (some .int) [rf G 173, .int a1, .int a2, .int a3] M (fX9_sheet a1 a2 a3 M) := by
  refine Mt.of2 (own := RX9) (lv := [(0, rf G 173), (1, .int a1), (2, .int a2), (3, .int a3)]) rfl (by decide +kernel) rfl rfl ?_
  unfold fX9_sheet
  refine s_iload_n 1 dX9_sheet_0 rfl rfl ?_
  refine s_call_z (s_runS (rest := []) (mX9_isPlate l G a1 M) ok_X9_isPlate k_X9_270 rfl rfl rfl rfl dX9_sheet_1) fun r1 M2 => ?_
  refine s_ifeqB (tgt := 29) dX9_sheet_4 (by decide) ?_ ?_
  · exact s_sub [0] rfl (tX9_sheet_B29 l G M2)
  · refine s_iload_n 2 dX9_sheet_7 rfl rfl ?_
    refine s_ifeq (tgt := 36) dX9_sheet_8 (by decide) ?_ ?_
    · exact s_sub [0, 1, 2, 3] rfl (tX9_sheet_B36 l G a1 a2 a3 M2)
    · refine s_iload_n 2 dX9_sheet_11 rfl rfl ?_
      refine s_bipush (v := 8) dX9_sheet_12 cb_8 ?_
      refine s_icmpeq (tgt := 36) dX9_sheet_14 (by decide) ?_ ?_
      · exact s_sub [0, 1, 2, 3] rfl (tX9_sheet_B36 l G a1 a2 a3 M2)
      · refine s_iload_n 2 dX9_sheet_17 rfl rfl ?_
        refine s_bipush (v := 16) dX9_sheet_18 cb_16 ?_
        refine s_icmpeq (tgt := 36) dX9_sheet_20 (by decide) ?_ ?_
        · exact s_sub [0, 1, 2, 3] rfl (tX9_sheet_B36 l G a1 a2 a3 M2)
        · refine s_iload_n 2 dX9_sheet_23 rfl rfl ?_
          refine s_bipush (v := 32) dX9_sheet_24 cb_32 ?_
          refine s_icmpeq (tgt := 36) dX9_sheet_26 (by decide) ?_ ?_
          · exact s_sub [0, 1, 2, 3] rfl (tX9_sheet_B36 l G a1 a2 a3 M2)
          · exact s_sub [0] rfl (tX9_sheet_B29 l G M2)
theorem dX9_put_0 : decode cX9_put 0 = .ok (.iload_n 1, 1) := by decide +kernel
theorem dX9_put_1 : decode cX9_put 1 = .ok (.invokestatic 270, 3) := by decide +kernel
theorem dX9_put_4 : decode cX9_put 4 = .ok (.ifCond .ne 10, 3) := by decide +kernel
theorem dX9_put_7 : decode cX9_put 7 = .ok (.aload_n 0, 1) := by decide +kernel
theorem dX9_put_8 : decode cX9_put 8 = .ok (.ldc 87, 2) := by decide +kernel
theorem dX9_put_10 : decode cX9_put 10 = .ok (.invokevirtual 72, 3) := by decide +kernel
theorem dX9_put_13 : decode cX9_put 13 = .ok (.ireturn, 1) := by decide +kernel
theorem dX9_put_14 : decode cX9_put 14 = .ok (.aload_n 0, 1) := by decide +kernel
theorem dX9_put_15 : decode cX9_put 15 = .ok (.getfield 59, 3) := by decide +kernel
theorem dX9_put_18 : decode cX9_put 18 = .ok (.iload_n 1, 1) := by decide +kernel
theorem dX9_put_19 : decode cX9_put 19 = .ok (.aaload, 1) := by decide +kernel
theorem dX9_put_20 : decode cX9_put 20 = .ok (.astore 4, 2) := by decide +kernel
theorem dX9_put_22 : decode cX9_put 22 = .ok (.aload 4, 2) := by decide +kernel
theorem dX9_put_24 : decode cX9_put 24 = .ok (.invokevirtual 282, 3) := by decide +kernel
theorem dX9_put_27 : decode cX9_put 27 = .ok (.ifCond .eq 10, 3) := by decide +kernel
theorem dX9_put_30 : decode cX9_put 30 = .ok (.aload_n 0, 1) := by decide +kernel
theorem dX9_put_31 : decode cX9_put 31 = .ok (.ldc 223, 2) := by decide +kernel
theorem dX9_put_33 : decode cX9_put 33 = .ok (.invokevirtual 72, 3) := by decide +kernel
theorem dX9_put_36 : decode cX9_put 36 = .ok (.ireturn, 1) := by decide +kernel
theorem dX9_put_37 : decode cX9_put 37 = .ok (.aload 4, 2) := by decide +kernel
theorem dX9_put_39 : decode cX9_put 39 = .ok (.getfield 276, 3) := by decide +kernel
theorem dX9_put_42 : decode cX9_put 42 = .ok (.iload_n 2, 1) := by decide +kernel
theorem dX9_put_43 : decode cX9_put 43 = .ok (.aload 4, 2) := by decide +kernel
theorem dX9_put_45 : decode cX9_put 45 = .ok (.iload_n 3, 1) := by decide +kernel
theorem dX9_put_46 : decode cX9_put 46 = .ok (.invokevirtual 285, 3) := by decide +kernel
theorem dX9_put_49 : decode cX9_put 49 = .ok (.invokevirtual 288, 3) := by decide +kernel
theorem dX9_put_52 : decode cX9_put 52 = .ok (.ifCond .eq 7, 3) := by decide +kernel
theorem dX9_put_55 : decode cX9_put 55 = .ok (.iconst 1, 1) := by decide +kernel
theorem dX9_put_56 : decode cX9_put 56 = .ok (.goto 9, 3) := by decide +kernel
theorem dX9_put_59 : decode cX9_put 59 = .ok (.aload_n 0, 1) := by decide +kernel
theorem dX9_put_60 : decode cX9_put 60 = .ok (.ldc 87, 2) := by decide +kernel
theorem dX9_put_62 : decode cX9_put 62 = .ok (.invokevirtual 72, 3) := by decide +kernel
theorem dX9_put_65 : decode cX9_put 65 = .ok (.ireturn, 1) := by decide +kernel
def fX9_put_B65 (w0 : Int32) (M : Mm) : Option (Int32 × Mm) :=
  some (w0, M)
theorem tX9_put_B65 (l : Launch) (G : Gx) (w0 : Int32) (M : Mm) : Sim cQi l layC G 3 cX9_put RX9 5 (some .int) 65 [] [.int w0] M (fX9_put_B65 w0 M) := by
  unfold fX9_put_B65
  exact s_iret rfl dX9_put_65
def fX9_put (a1 : Int32) (a2 : Int32) (a3 : Int32) (M : Mm) : Option (Int32 × Mm) :=
  bd (fX9_isPlate a1 M) fun r1 M2 =>
  if r1 = true then (gd (inb a1 4) <|
  gd (isC layC (160 + 3 * ix a1) 4) <|
  bd (fX4_isMissing (160 + 3 * ix a1) M2) fun r7 M8 =>
  if r7 = true then (bd (fX9_refuse (-1000000002 : Int32) M8) fun r9 M10 =>
  some (r9, M10))
  else bd (fX4_lowestBits (160 + 3 * ix a1) a3 M8) fun r11 M12 =>
  gd (isC layC (fR layC (160 + 3 * ix a1) 0) 5) <|
  bd (fX5_change (fR layC (160 + 3 * ix a1) 0) a2 r11 M12) fun r14 M15 =>
  if r14 = true then (fX9_put_B65 (1 : Int32) M15)
  else bd (fX9_refuse (-1000000001 : Int32) M15) fun r16 M17 =>
  fX9_put_B65 r16 M17)
  else bd (fX9_refuse (-1000000001 : Int32) M2) fun r3 M4 =>
  some (r3, M4)
theorem mX9_put (l : Launch) (G : Gx) (a1 : Int32) (a2 : Int32) (a3 : Int32) (M : Mm) : Mt cQi l layC G 3 yX9_put cX9_put 5 (some .int) [rf G 173, .int a1, .int a2, .int a3] M (fX9_put a1 a2 a3 M) := by
  refine Mt.of2 (own := RX9) (lv := [(0, rf G 173), (1, .int a1), (2, .int a2), (3, .int a3)]) rfl (by decide +kernel) rfl rfl ?_
  unfold fX9_put
  refine s_iload_n 1 dX9_put_0 rfl rfl ?_
  refine s_call_z (s_runS (rest := []) (mX9_isPlate l G a1 M) ok_X9_isPlate k_X9_270 rfl rfl rfl rfl dX9_put_1) fun r1 M2 => ?_
  refine s_ifneB (tgt := 14) dX9_put_4 (by decide) ?_ ?_
  · refine s_aload_n 0 dX9_put_14 rfl rfl ?_
    refine g_X9_59 (q := 159) rfl rfl dX9_put_15 ?_
    refine s_iload_n 1 dX9_put_18 rfl rfl ?_
    refine s_gd fun h5 => ?_
    refine s_aald (t := 3) (bs := 160) (sd := 3) (n := 4) rfl rfl h5 dX9_put_19 ?_
    refine s_astore (lv' := [(4, rf G (160 + 3 * ix a1)), (0, rf G 173), (1, .int a1), (2, .int a2), (3, .int a3)]) dX9_put_20 rfl rfl ?_
    refine s_aload 0 dX9_put_22 rfl ?_
    refine s_gd fun h6 => ?_
    refine s_call_z (s_runV (ci := 4) (rest := []) h6 rfl (mX4_isMissing l G (160 + 3 * ix a1) M2) ok_X4_isMissing k_X9_282 rfl rfl rfl rfl dX9_put_24) fun r7 M8 => ?_
    refine s_ifeqB (tgt := 37) dX9_put_27 (by decide) ?_ ?_
    · refine s_aload 0 dX9_put_37 rfl ?_
      refine g_X9_276 (q := fR layC (160 + 3 * ix a1) 0) h6 rfl dX9_put_39 ?_
      refine s_iload_n 3 dX9_put_42 rfl rfl ?_
      refine s_aload 0 dX9_put_43 rfl ?_
      refine s_iload_n 4 dX9_put_45 rfl rfl ?_
      refine s_call_i (s_runV (ci := 4) (rest := [.int a2, rf G (fR layC (160 + 3 * ix a1) 0)]) h6 rfl (mX4_lowestBits l G (160 + 3 * ix a1) a3 M8) ok_X4_lowestBits k_X9_285 rfl rfl rfl rfl dX9_put_46) fun r11 M12 => ?_
      refine s_gd fun h13 => ?_
      refine s_call_z (s_runV (ci := 5) (rest := []) h13 rfl (mX5_change l G (fR layC (160 + 3 * ix a1) 0) a2 r11 M12) ok_X5_change k_X9_288 rfl rfl rfl rfl dX9_put_49) fun r14 M15 => ?_
      refine s_ifeqB (tgt := 59) dX9_put_52 (by decide) ?_ ?_
      · refine s_aload_n 1 dX9_put_59 rfl rfl ?_
        refine s_ldc (v := -1000000001) dX9_put_60 q_425 ?_
        refine s_call_i (s_runV (ci := 9) (rest := []) rfl rfl (mX9_refuse l G (-1000000001 : Int32) M15) ok_X9_refuse k_X9_72 rfl rfl rfl rfl dX9_put_62) fun r16 M17 => ?_
        exact s_sub [] rfl (tX9_put_B65 l G r16 M17)
      · refine s_iconst (v := 1) dX9_put_55 ci_1 ?_
        refine s_goto (tgt := 65) dX9_put_56 (by decide) ?_
        exact s_sub [] rfl (tX9_put_B65 l G (1 : Int32) M15)
    · refine s_aload_n 1 dX9_put_30 rfl rfl ?_
      refine s_ldc (v := -1000000002) dX9_put_31 q_779 ?_
      refine s_call_i (s_runV (ci := 9) (rest := []) rfl rfl (mX9_refuse l G (-1000000002 : Int32) M8) ok_X9_refuse k_X9_72 rfl rfl rfl rfl dX9_put_33) fun r9 M10 => ?_
      exact s_iret rfl dX9_put_36
  · refine s_aload_n 0 dX9_put_7 rfl rfl ?_
    refine s_ldc (v := -1000000001) dX9_put_8 q_425 ?_
    refine s_call_i (s_runV (ci := 9) (rest := []) rfl rfl (mX9_refuse l G (-1000000001 : Int32) M2) ok_X9_refuse k_X9_72 rfl rfl rfl rfl dX9_put_10) fun r3 M4 => ?_
    exact s_iret rfl dX9_put_13
theorem dX9_move_0 : decode cX9_move 0 = .ok (.iload_n 1, 1) := by decide +kernel
theorem dX9_move_1 : decode cX9_move 1 = .ok (.invokestatic 270, 3) := by decide +kernel
theorem dX9_move_4 : decode cX9_move 4 = .ok (.ifCond .eq 10, 3) := by decide +kernel
theorem dX9_move_7 : decode cX9_move 7 = .ok (.iload_n 3, 1) := by decide +kernel
theorem dX9_move_8 : decode cX9_move 8 = .ok (.invokestatic 270, 3) := by decide +kernel
theorem dX9_move_11 : decode cX9_move 11 = .ok (.ifCond .ne 10, 3) := by decide +kernel
theorem dX9_move_14 : decode cX9_move 14 = .ok (.aload_n 0, 1) := by decide +kernel
theorem dX9_move_15 : decode cX9_move 15 = .ok (.ldc 87, 2) := by decide +kernel
theorem dX9_move_17 : decode cX9_move 17 = .ok (.invokevirtual 72, 3) := by decide +kernel
theorem dX9_move_20 : decode cX9_move 20 = .ok (.ireturn, 1) := by decide +kernel
theorem dX9_move_21 : decode cX9_move 21 = .ok (.aload_n 0, 1) := by decide +kernel
theorem dX9_move_22 : decode cX9_move 22 = .ok (.getfield 59, 3) := by decide +kernel
theorem dX9_move_25 : decode cX9_move 25 = .ok (.iload_n 1, 1) := by decide +kernel
theorem dX9_move_26 : decode cX9_move 26 = .ok (.aaload, 1) := by decide +kernel
theorem dX9_move_27 : decode cX9_move 27 = .ok (.astore 6, 2) := by decide +kernel
theorem dX9_move_29 : decode cX9_move 29 = .ok (.aload_n 0, 1) := by decide +kernel
theorem dX9_move_30 : decode cX9_move 30 = .ok (.getfield 59, 3) := by decide +kernel
theorem dX9_move_33 : decode cX9_move 33 = .ok (.iload_n 3, 1) := by decide +kernel
theorem dX9_move_34 : decode cX9_move 34 = .ok (.aaload, 1) := by decide +kernel
theorem dX9_move_35 : decode cX9_move 35 = .ok (.astore 7, 2) := by decide +kernel
theorem dX9_move_37 : decode cX9_move 37 = .ok (.aload 6, 2) := by decide +kernel
theorem dX9_move_39 : decode cX9_move 39 = .ok (.invokevirtual 282, 3) := by decide +kernel
theorem dX9_move_42 : decode cX9_move 42 = .ok (.ifCond .ne 11, 3) := by decide +kernel
theorem dX9_move_45 : decode cX9_move 45 = .ok (.aload 7, 2) := by decide +kernel
theorem dX9_move_47 : decode cX9_move 47 = .ok (.invokevirtual 282, 3) := by decide +kernel
theorem dX9_move_50 : decode cX9_move 50 = .ok (.ifCond .eq 10, 3) := by decide +kernel
theorem dX9_move_53 : decode cX9_move 53 = .ok (.aload_n 0, 1) := by decide +kernel
theorem dX9_move_54 : decode cX9_move 54 = .ok (.ldc 223, 2) := by decide +kernel
theorem dX9_move_56 : decode cX9_move 56 = .ok (.invokevirtual 72, 3) := by decide +kernel
theorem dX9_move_59 : decode cX9_move 59 = .ok (.ireturn, 1) := by decide +kernel
theorem dX9_move_60 : decode cX9_move 60 = .ok (.aload 6, 2) := by decide +kernel
theorem dX9_move_62 : decode cX9_move 62 = .ok (.getfield 273, 3) := by decide +kernel
theorem dX9_move_65 : decode cX9_move 65 = .ok (.aload 7, 2) := by decide +kernel
theorem dX9_move_67 : decode cX9_move 67 = .ok (.getfield 273, 3) := by decide +kernel
theorem dX9_move_70 : decode cX9_move 70 = .ok (.if_icmp .eq 10, 3) := by decide +kernel
theorem dX9_move_73 : decode cX9_move 73 = .ok (.aload_n 0, 1) := by decide +kernel
theorem dX9_move_74 : decode cX9_move 74 = .ok (.ldc 109, 2) := by decide +kernel
theorem dX9_move_76 : decode cX9_move 76 = .ok (.invokevirtual 72, 3) := by decide +kernel
theorem dX9_move_79 : decode cX9_move 79 = .ok (.ireturn, 1) := by decide +kernel
theorem dX9_move_80 : decode cX9_move 80 = .ok (.aload 7, 2) := by decide +kernel
theorem dX9_move_82 : decode cX9_move 82 = .ok (.getfield 276, 3) := by decide +kernel
theorem dX9_move_85 : decode cX9_move 85 = .ok (.iload 4, 2) := by decide +kernel
theorem dX9_move_87 : decode cX9_move 87 = .ok (.aload 6, 2) := by decide +kernel
theorem dX9_move_89 : decode cX9_move 89 = .ok (.getfield 276, 3) := by decide +kernel
theorem dX9_move_92 : decode cX9_move 92 = .ok (.iload_n 2, 1) := by decide +kernel
theorem dX9_move_93 : decode cX9_move 93 = .ok (.iload 5, 2) := by decide +kernel
theorem dX9_move_95 : decode cX9_move 95 = .ok (.invokevirtual 291, 3) := by decide +kernel
theorem dX9_move_98 : decode cX9_move 98 = .ok (.ifCond .eq 8, 3) := by decide +kernel
theorem dX9_move_101 : decode cX9_move 101 = .ok (.iload 5, 2) := by decide +kernel
theorem dX9_move_103 : decode cX9_move 103 = .ok (.goto 9, 3) := by decide +kernel
theorem dX9_move_106 : decode cX9_move 106 = .ok (.aload_n 0, 1) := by decide +kernel
theorem dX9_move_107 : decode cX9_move 107 = .ok (.ldc 87, 2) := by decide +kernel
theorem dX9_move_109 : decode cX9_move 109 = .ok (.invokevirtual 72, 3) := by decide +kernel
theorem dX9_move_112 : decode cX9_move 112 = .ok (.ireturn, 1) := by decide +kernel
def fX9_move_B14 (M : Mm) : Option (Int32 × Mm) :=
  bd (fX9_refuse (-1000000001 : Int32) M) fun r5 M6 =>
  some (r5, M6)
theorem tX9_move_B14 (l : Launch) (G : Gx) (M : Mm) : Sim cQi l layC G 4 cX9_move RX9 8 (some .int) 14 [(0, rf G 173)] [] M (fX9_move_B14 M) := by
  unfold fX9_move_B14
  refine s_aload_n 0 dX9_move_14 rfl rfl ?_
  refine s_ldc (v := -1000000001) dX9_move_15 q_425 ?_
  refine s_call_i (s_runV (ci := 9) (rest := []) rfl rfl (mX9_refuse l G (-1000000001 : Int32) M) ok_X9_refuse k_X9_72 rfl rfl rfl rfl dX9_move_17) fun r5 M6 => ?_
  exact s_iret rfl dX9_move_20
def fX9_move_B53 (M : Mm) : Option (Int32 × Mm) :=
  bd (fX9_refuse (-1000000002 : Int32) M) fun r15 M16 =>
  some (r15, M16)
theorem tX9_move_B53 (l : Launch) (G : Gx) (M : Mm) : Sim cQi l layC G 4 cX9_move RX9 8 (some .int) 53 [(0, rf G 173)] [] M (fX9_move_B53 M) := by
  unfold fX9_move_B53
  refine s_aload_n 0 dX9_move_53 rfl rfl ?_
  refine s_ldc (v := -1000000002) dX9_move_54 q_779 ?_
  refine s_call_i (s_runV (ci := 9) (rest := []) rfl rfl (mX9_refuse l G (-1000000002 : Int32) M) ok_X9_refuse k_X9_72 rfl rfl rfl rfl dX9_move_56) fun r15 M16 => ?_
  exact s_iret rfl dX9_move_59
def fX9_move_B112 (w0 : Int32) (M : Mm) : Option (Int32 × Mm) :=
  some (w0, M)
theorem tX9_move_B112 (l : Launch) (G : Gx) (w0 : Int32) (M : Mm) : Sim cQi l layC G 4 cX9_move RX9 8 (some .int) 112 [] [.int w0] M (fX9_move_B112 w0 M) := by
  unfold fX9_move_B112
  exact s_iret rfl dX9_move_112
def fX9_move (a1 : Int32) (a2 : Int32) (a3 : Int32) (a4 : Int32) (a5 : Int32) (M : Mm) : Option (Int32 × Mm) :=
  bd (fX9_isPlate a1 M) fun r1 M2 =>
  if r1 = true then (bd (fX9_isPlate a3 M2) fun r3 M4 =>
  if r3 = true then (gd (inb a1 4) <|
  gd (inb a3 4) <|
  gd (isC layC (160 + 3 * ix a1) 4) <|
  bd (fX4_isMissing (160 + 3 * ix a1) M4) fun r10 M11 =>
  if r10 = true then (fX9_move_B53 M11)
  else gd (isC layC (160 + 3 * ix a3) 4) <|
  bd (fX4_isMissing (160 + 3 * ix a3) M11) fun r13 M14 =>
  if r13 = true then (fX9_move_B53 M14)
  else if (M14 (160 + 3 * ix a1) 1) = (M14 (160 + 3 * ix a3) 1) then (gd (isC layC (fR layC (160 + 3 * ix a3) 0) 5) <|
  bd (fX5_bring (fR layC (160 + 3 * ix a3) 0) a4 (fR layC (160 + 3 * ix a1) 0) a2 a5 M14) fun r18 M19 =>
  if r18 = true then (fX9_move_B112 a5 M19)
  else bd (fX9_refuse (-1000000001 : Int32) M19) fun r20 M21 =>
  fX9_move_B112 r20 M21)
  else bd (fX9_refuse (-1000000005 : Int32) M14) fun r22 M23 =>
  some (r22, M23))
  else fX9_move_B14 M4)
  else fX9_move_B14 M2
theorem mX9_move (l : Launch) (G : Gx) (a1 : Int32) (a2 : Int32) (a3 : Int32) (a4 : Int32) (a5 : Int32) (M : Mm) : Mt cQi l layC G 4 yX9_move cX9_move 8 (some .int) [rf G 173, .int a1, .int a2, .int a3, .int a4, .int a5] M (fX9_move a1 a2 a3 a4 a5 M) := by
  refine Mt.of2 (own := RX9) (lv := [(0, rf G 173), (1, .int a1), (2, .int a2), (3, .int a3), (4, .int a4), (5, .int a5)]) rfl (by decide +kernel) rfl rfl ?_
  unfold fX9_move
  refine s_iload_n 1 dX9_move_0 rfl rfl ?_
  refine s_call_z (s_runS (rest := []) (mX9_isPlate l G a1 M) ok_X9_isPlate k_X9_270 rfl rfl rfl rfl dX9_move_1) fun r1 M2 => ?_
  refine s_ifeqB (tgt := 14) dX9_move_4 (by decide) ?_ ?_
  · exact s_sub [0] rfl (tX9_move_B14 l G M2)
  · refine s_iload_n 3 dX9_move_7 rfl rfl ?_
    refine s_call_z (s_runS (rest := []) (mX9_isPlate l G a3 M2) ok_X9_isPlate k_X9_270 rfl rfl rfl rfl dX9_move_8) fun r3 M4 => ?_
    refine s_ifneB (tgt := 21) dX9_move_11 (by decide) ?_ ?_
    · refine s_aload_n 0 dX9_move_21 rfl rfl ?_
      refine g_X9_59 (q := 159) rfl rfl dX9_move_22 ?_
      refine s_iload_n 1 dX9_move_25 rfl rfl ?_
      refine s_gd fun h7 => ?_
      refine s_aald (t := 3) (bs := 160) (sd := 3) (n := 4) rfl rfl h7 dX9_move_26 ?_
      refine s_astore (lv' := [(6, rf G (160 + 3 * ix a1)), (0, rf G 173), (1, .int a1), (2, .int a2), (3, .int a3), (4, .int a4), (5, .int a5)]) dX9_move_27 rfl rfl ?_
      refine s_aload_n 1 dX9_move_29 rfl rfl ?_
      refine g_X9_59 (q := 159) rfl rfl dX9_move_30 ?_
      refine s_iload_n 4 dX9_move_33 rfl rfl ?_
      refine s_gd fun h8 => ?_
      refine s_aald (t := 3) (bs := 160) (sd := 3) (n := 4) rfl rfl h8 dX9_move_34 ?_
      refine s_astore (lv' := [(7, rf G (160 + 3 * ix a3)), (6, rf G (160 + 3 * ix a1)), (0, rf G 173), (1, .int a1), (2, .int a2), (3, .int a3), (4, .int a4), (5, .int a5)]) dX9_move_35 rfl rfl ?_
      refine s_aload 1 dX9_move_37 rfl ?_
      refine s_gd fun h9 => ?_
      refine s_call_z (s_runV (ci := 4) (rest := []) h9 rfl (mX4_isMissing l G (160 + 3 * ix a1) M4) ok_X4_isMissing k_X9_282 rfl rfl rfl rfl dX9_move_39) fun r10 M11 => ?_
      refine s_ifneB (tgt := 53) dX9_move_42 (by decide) ?_ ?_
      · exact s_sub [2] rfl (tX9_move_B53 l G M11)
      · refine s_aload 0 dX9_move_45 rfl ?_
        refine s_gd fun h12 => ?_
        refine s_call_z (s_runV (ci := 4) (rest := []) h12 rfl (mX4_isMissing l G (160 + 3 * ix a3) M11) ok_X4_isMissing k_X9_282 rfl rfl rfl rfl dX9_move_47) fun r13 M14 => ?_
        refine s_ifeqB (tgt := 60) dX9_move_50 (by decide) ?_ ?_
        · refine s_aload 1 dX9_move_60 rfl ?_
          refine g_X9_273 h9 dX9_move_62 ?_
          refine s_aload 0 dX9_move_65 rfl ?_
          refine g_X9_273 h12 dX9_move_67 ?_
          refine s_icmpeq (tgt := 80) dX9_move_70 (by decide) ?_ ?_
          · refine s_aload 0 dX9_move_80 rfl ?_
            refine g_X9_276 (q := fR layC (160 + 3 * ix a3) 0) h12 rfl dX9_move_82 ?_
            refine s_iload 6 dX9_move_85 rfl ?_
            refine s_aload 1 dX9_move_87 rfl ?_
            refine g_X9_276 (q := fR layC (160 + 3 * ix a1) 0) h9 rfl dX9_move_89 ?_
            refine s_iload_n 4 dX9_move_92 rfl rfl ?_
            refine s_iload 7 dX9_move_93 rfl ?_
            refine s_gd fun h17 => ?_
            refine s_call_z (s_runV (ci := 5) (rest := []) h17 rfl (mX5_bring l G (fR layC (160 + 3 * ix a3) 0) a4 (fR layC (160 + 3 * ix a1) 0) a2 a5 M14) ok_X5_bring k_X9_291 rfl rfl rfl rfl dX9_move_95) fun r18 M19 => ?_
            refine s_ifeqB (tgt := 106) dX9_move_98 (by decide) ?_ ?_
            · refine s_aload_n 2 dX9_move_106 rfl rfl ?_
              refine s_ldc (v := -1000000001) dX9_move_107 q_425 ?_
              refine s_call_i (s_runV (ci := 9) (rest := []) rfl rfl (mX9_refuse l G (-1000000001 : Int32) M19) ok_X9_refuse k_X9_72 rfl rfl rfl rfl dX9_move_109) fun r20 M21 => ?_
              exact s_sub [] rfl (tX9_move_B112 l G r20 M21)
            · refine s_iload 7 dX9_move_101 rfl ?_
              refine s_goto (tgt := 112) dX9_move_103 (by decide) ?_
              exact s_sub [] rfl (tX9_move_B112 l G a5 M19)
          · refine s_aload_n 2 dX9_move_73 rfl rfl ?_
            refine s_ldc (v := -1000000005) dX9_move_74 q_477 ?_
            refine s_call_i (s_runV (ci := 9) (rest := []) rfl rfl (mX9_refuse l G (-1000000005 : Int32) M14) ok_X9_refuse k_X9_72 rfl rfl rfl rfl dX9_move_76) fun r22 M23 => ?_
            exact s_iret rfl dX9_move_79
        · exact s_sub [2] rfl (tX9_move_B53 l G M14)
    · exact s_sub [0] rfl (tX9_move_B14 l G M4)
theorem dX9_casts_0 : decode cX9_casts 0 = .ok (.iload_n 1, 1) := by decide +kernel
theorem dX9_casts_1 : decode cX9_casts 1 = .ok (.invokestatic 270, 3) := by decide +kernel
theorem dX9_casts_4 : decode cX9_casts 4 = .ok (.ifCond .ne 10, 3) := by decide +kernel
theorem dX9_casts_7 : decode cX9_casts 7 = .ok (.aload_n 0, 1) := by decide +kernel
theorem dX9_casts_8 : decode cX9_casts 8 = .ok (.ldc 87, 2) := by decide +kernel
theorem dX9_casts_10 : decode cX9_casts 10 = .ok (.invokevirtual 72, 3) := by decide +kernel
theorem dX9_casts_13 : decode cX9_casts 13 = .ok (.ireturn, 1) := by decide +kernel
theorem dX9_casts_14 : decode cX9_casts 14 = .ok (.aload_n 0, 1) := by decide +kernel
theorem dX9_casts_15 : decode cX9_casts 15 = .ok (.getfield 59, 3) := by decide +kernel
theorem dX9_casts_18 : decode cX9_casts 18 = .ok (.iload_n 1, 1) := by decide +kernel
theorem dX9_casts_19 : decode cX9_casts 19 = .ok (.aaload, 1) := by decide +kernel
theorem dX9_casts_20 : decode cX9_casts 20 = .ok (.invokevirtual 282, 3) := by decide +kernel
theorem dX9_casts_23 : decode cX9_casts 23 = .ok (.ifCond .eq 10, 3) := by decide +kernel
theorem dX9_casts_26 : decode cX9_casts 26 = .ok (.aload_n 0, 1) := by decide +kernel
theorem dX9_casts_27 : decode cX9_casts 27 = .ok (.ldc 223, 2) := by decide +kernel
theorem dX9_casts_29 : decode cX9_casts 29 = .ok (.invokevirtual 72, 3) := by decide +kernel
theorem dX9_casts_32 : decode cX9_casts 32 = .ok (.ireturn, 1) := by decide +kernel
theorem dX9_casts_33 : decode cX9_casts 33 = .ok (.aload_n 0, 1) := by decide +kernel
theorem dX9_casts_34 : decode cX9_casts 34 = .ok (.getfield 59, 3) := by decide +kernel
theorem dX9_casts_37 : decode cX9_casts 37 = .ok (.iload_n 1, 1) := by decide +kernel
theorem dX9_casts_38 : decode cX9_casts 38 = .ok (.aaload, 1) := by decide +kernel
theorem dX9_casts_39 : decode cX9_casts 39 = .ok (.getfield 276, 3) := by decide +kernel
theorem dX9_casts_42 : decode cX9_casts 42 = .ok (.astore_n 2, 1) := by decide +kernel
theorem dX9_casts_43 : decode cX9_casts 43 = .ok (.iconst 0, 1) := by decide +kernel
theorem dX9_casts_44 : decode cX9_casts 44 = .ok (.istore_n 3, 1) := by decide +kernel
theorem dX9_casts_45 : decode cX9_casts 45 = .ok (.iconst 0, 1) := by decide +kernel
theorem dX9_casts_46 : decode cX9_casts 46 = .ok (.istore 4, 2) := by decide +kernel
theorem dX9_casts_48 : decode cX9_casts 48 = .ok (.iload 4, 2) := by decide +kernel
theorem dX9_casts_50 : decode cX9_casts 50 = .ok (.iconst 3, 1) := by decide +kernel
theorem dX9_casts_51 : decode cX9_casts 51 = .ok (.iadd, 1) := by decide +kernel
theorem dX9_casts_52 : decode cX9_casts 52 = .ok (.aload_n 2, 1) := by decide +kernel
theorem dX9_casts_53 : decode cX9_casts 53 = .ok (.getfield 141, 3) := by decide +kernel
theorem dX9_casts_56 : decode cX9_casts 56 = .ok (.if_icmp .gt 77, 3) := by decide +kernel
theorem dX9_casts_59 : decode cX9_casts 59 = .ok (.aload_n 0, 1) := by decide +kernel
theorem dX9_casts_60 : decode cX9_casts 60 = .ok (.getfield 12, 3) := by decide +kernel
theorem dX9_casts_63 : decode cX9_casts 63 = .ok (.aload_n 2, 1) := by decide +kernel
theorem dX9_casts_64 : decode cX9_casts 64 = .ok (.iload 4, 2) := by decide +kernel
theorem dX9_casts_66 : decode cX9_casts 66 = .ok (.invokevirtual 207, 3) := by decide +kernel
theorem dX9_casts_69 : decode cX9_casts 69 = .ok (.aload_n 2, 1) := by decide +kernel
theorem dX9_casts_70 : decode cX9_casts 70 = .ok (.iload 4, 2) := by decide +kernel
theorem dX9_casts_72 : decode cX9_casts 72 = .ok (.iconst 1, 1) := by decide +kernel
theorem dX9_casts_73 : decode cX9_casts 73 = .ok (.iadd, 1) := by decide +kernel
theorem dX9_casts_74 : decode cX9_casts 74 = .ok (.invokevirtual 207, 3) := by decide +kernel
theorem dX9_casts_77 : decode cX9_casts 77 = .ok (.aload_n 2, 1) := by decide +kernel
theorem dX9_casts_78 : decode cX9_casts 78 = .ok (.iload 4, 2) := by decide +kernel
theorem dX9_casts_80 : decode cX9_casts 80 = .ok (.iconst 2, 1) := by decide +kernel
theorem dX9_casts_81 : decode cX9_casts 81 = .ok (.iadd, 1) := by decide +kernel
theorem dX9_casts_82 : decode cX9_casts 82 = .ok (.invokevirtual 207, 3) := by decide +kernel
theorem dX9_casts_85 : decode cX9_casts 85 = .ok (.invokevirtual 68, 3) := by decide +kernel
theorem dX9_casts_88 : decode cX9_casts 88 = .ok (.ifCond .eq 6, 3) := by decide +kernel
theorem dX9_casts_91 : decode cX9_casts 91 = .ok (.goto 42, 3) := by decide +kernel
theorem dX9_casts_94 : decode cX9_casts 94 = .ok (.aload_n 0, 1) := by decide +kernel
theorem dX9_casts_95 : decode cX9_casts 95 = .ok (.getfield 12, 3) := by decide +kernel
theorem dX9_casts_98 : decode cX9_casts 98 = .ok (.aload_n 2, 1) := by decide +kernel
theorem dX9_casts_99 : decode cX9_casts 99 = .ok (.iload 4, 2) := by decide +kernel
theorem dX9_casts_101 : decode cX9_casts 101 = .ok (.invokevirtual 207, 3) := by decide +kernel
theorem dX9_casts_104 : decode cX9_casts 104 = .ok (.aload_n 2, 1) := by decide +kernel
theorem dX9_casts_105 : decode cX9_casts 105 = .ok (.iload 4, 2) := by decide +kernel
theorem dX9_casts_107 : decode cX9_casts 107 = .ok (.iconst 1, 1) := by decide +kernel
theorem dX9_casts_108 : decode cX9_casts 108 = .ok (.iadd, 1) := by decide +kernel
theorem dX9_casts_109 : decode cX9_casts 109 = .ok (.invokevirtual 207, 3) := by decide +kernel
theorem dX9_casts_112 : decode cX9_casts 112 = .ok (.aload_n 2, 1) := by decide +kernel
theorem dX9_casts_113 : decode cX9_casts 113 = .ok (.iload 4, 2) := by decide +kernel
theorem dX9_casts_115 : decode cX9_casts 115 = .ok (.iconst 2, 1) := by decide +kernel
theorem dX9_casts_116 : decode cX9_casts 116 = .ok (.iadd, 1) := by decide +kernel
theorem dX9_casts_117 : decode cX9_casts 117 = .ok (.invokevirtual 207, 3) := by decide +kernel
theorem dX9_casts_120 : decode cX9_casts 120 = .ok (.invokevirtual 76, 3) := by decide +kernel
theorem dX9_casts_123 : decode cX9_casts 123 = .ok (.pop, 1) := by decide +kernel
theorem dX9_casts_124 : decode cX9_casts 124 = .ok (.iinc 3 1, 3) := by decide +kernel
theorem dX9_casts_127 : decode cX9_casts 127 = .ok (.iinc 4 3, 3) := by decide +kernel
theorem dX9_casts_130 : decode cX9_casts 130 = .ok (.goto (-82), 3) := by decide +kernel
theorem dX9_casts_133 : decode cX9_casts 133 = .ok (.iload_n 3, 1) := by decide +kernel
theorem dX9_casts_134 : decode cX9_casts 134 = .ok (.ireturn, 1) := by decide +kernel
def fX9_casts_B133 (v3 : Int32) (M : Mm) : Option (Int32 × Mm) :=
  some (v3, M)
theorem tX9_casts_B133 (l : Launch) (G : Gx) (v3 : Int32) (M : Mm) : Sim cQi l layC G 3 cX9_casts RX9 5 (some .int) 133 [(3, .int v3)] [] M (fX9_casts_B133 v3 M) := by
  unfold fX9_casts_B133
  refine s_iload_n 0 dX9_casts_133 rfl rfl ?_
  exact s_iret rfl dX9_casts_134
def fX9_casts_B91 (v3 : Int32) (M : Mm) : Option (Int32 × Mm) :=
  fX9_casts_B133 v3 M
theorem tX9_casts_B91 (l : Launch) (G : Gx) (v3 : Int32) (M : Mm) : Sim cQi l layC G 3 cX9_casts RX9 5 (some .int) 91 [(3, .int v3)] [] M (fX9_casts_B91 v3 M) := by
  unfold fX9_casts_B91
  refine s_goto (tgt := 133) dX9_casts_91 (by decide) ?_
  exact s_sub [0] rfl (tX9_casts_B133 l G v3 M)
def fX9_casts_L48b (v2 : Nat) (q48 : Int32 → Int32 → Mm → Option (Int32 × Mm)) (v4 : Int32) (v3 : Int32) (M : Mm) : Option (Int32 × Mm) :=
  gd (isC layC v2 5) <|
  if (M v2 1) < (v4 + (3 : Int32)) then (fX9_casts_B133 v3 M)
  else bd (fX5_at v2 v4 M) fun r12 M13 =>
  bd (fX5_at v2 (v4 + (1 : Int32)) M13) fun r14 M15 =>
  bd (fX5_at v2 (v4 + (2 : Int32)) M15) fun r16 M17 =>
  bd (fX7_castError r12 r14 r16 M17) fun r18 M19 =>
  if r18 = 0 then (bd (fX5_at v2 v4 M19) fun r20 M21 =>
  bd (fX5_at v2 (v4 + (1 : Int32)) M21) fun r22 M23 =>
  bd (fX5_at v2 (v4 + (2 : Int32)) M23) fun r24 M25 =>
  bd (fX7_castLetter r20 r22 r24 M25) fun r26 M27 =>
  q48 (v4 + 3) (v3 + 1) M27)
  else fX9_casts_B91 v3 M19
def fX9_casts_L48 (v2 : Nat) : Nat → Int32 → Int32 → Mm → Option (Int32 × Mm)
  | 0 => fun _ _ _ => none
  | n + 1 => fX9_casts_L48b v2 (fX9_casts_L48 v2 n)
theorem tX9_casts_L48b (l : Launch) (G : Gx) (v2 : Nat) (q48 : Int32 → Int32 → Mm → Option (Int32 × Mm)) (hq48 : ∀ (v4 : Int32) (v3 : Int32) (M : Mm), Sim cQi l layC G 3 cX9_casts RX9 5 (some .int) 48 [(4, .int v4), (3, .int v3), (2, rf G v2), (0, rf G 173)] [] M (q48 v4 v3 M)) (v4 : Int32) (v3 : Int32) (M : Mm) : Sim cQi l layC G 3 cX9_casts RX9 5 (some .int) 48 [(4, .int v4), (3, .int v3), (2, rf G v2), (0, rf G 173)] [] M (fX9_casts_L48b v2 q48 v4 v3 M) := by
  unfold fX9_casts_L48b
  refine s_iload 0 dX9_casts_48 rfl ?_
  refine s_iconst (v := 3) dX9_casts_50 ci_3 ?_
  refine s_iadd dX9_casts_51 ?_
  refine s_aload_n 2 dX9_casts_52 rfl rfl ?_
  refine s_gd fun h11 => ?_
  refine g_X9_141 h11 dX9_casts_53 ?_
  refine s_icmpgt (tgt := 133) dX9_casts_56 (by decide) ?_ ?_
  · exact s_sub [1] rfl (tX9_casts_B133 l G v3 M)
  · refine s_aload_n 3 dX9_casts_59 rfl rfl ?_
    refine g_X9_12 (q := 0) rfl rfl dX9_casts_60 ?_
    refine s_aload_n 2 dX9_casts_63 rfl rfl ?_
    refine s_iload 0 dX9_casts_64 rfl ?_
    refine s_call_i (s_runV (ci := 5) (rest := [rf G 0]) h11 rfl (mX5_at l G v2 v4 M) ok_X5_at k_X9_207 rfl rfl rfl rfl dX9_casts_66) fun r12 M13 => ?_
    refine s_aload_n 2 dX9_casts_69 rfl rfl ?_
    refine s_iload 0 dX9_casts_70 rfl ?_
    refine s_iconst (v := 1) dX9_casts_72 ci_1 ?_
    refine s_iadd dX9_casts_73 ?_
    refine s_call_i (s_runV (ci := 5) (rest := [.int r12, rf G 0]) h11 rfl (mX5_at l G v2 (v4 + (1 : Int32)) M13) ok_X5_at k_X9_207 rfl rfl rfl rfl dX9_casts_74) fun r14 M15 => ?_
    refine s_aload_n 2 dX9_casts_77 rfl rfl ?_
    refine s_iload 0 dX9_casts_78 rfl ?_
    refine s_iconst (v := 2) dX9_casts_80 ci_2 ?_
    refine s_iadd dX9_casts_81 ?_
    refine s_call_i (s_runV (ci := 5) (rest := [.int r14, .int r12, rf G 0]) h11 rfl (mX5_at l G v2 (v4 + (2 : Int32)) M15) ok_X5_at k_X9_207 rfl rfl rfl rfl dX9_casts_82) fun r16 M17 => ?_
    refine s_call_i (s_runV (ci := 7) (rest := []) rfl rfl (mX7_castError l G r12 r14 r16 M17) ok_X7_castError k_X9_68 rfl rfl rfl rfl dX9_casts_85) fun r18 M19 => ?_
    refine s_ifeq (tgt := 94) dX9_casts_88 (by decide) ?_ ?_
    · refine s_aload_n 3 dX9_casts_94 rfl rfl ?_
      refine g_X9_12 (q := 0) rfl rfl dX9_casts_95 ?_
      refine s_aload_n 2 dX9_casts_98 rfl rfl ?_
      refine s_iload 0 dX9_casts_99 rfl ?_
      refine s_call_i (s_runV (ci := 5) (rest := [rf G 0]) h11 rfl (mX5_at l G v2 v4 M19) ok_X5_at k_X9_207 rfl rfl rfl rfl dX9_casts_101) fun r20 M21 => ?_
      refine s_aload_n 2 dX9_casts_104 rfl rfl ?_
      refine s_iload 0 dX9_casts_105 rfl ?_
      refine s_iconst (v := 1) dX9_casts_107 ci_1 ?_
      refine s_iadd dX9_casts_108 ?_
      refine s_call_i (s_runV (ci := 5) (rest := [.int r20, rf G 0]) h11 rfl (mX5_at l G v2 (v4 + (1 : Int32)) M21) ok_X5_at k_X9_207 rfl rfl rfl rfl dX9_casts_109) fun r22 M23 => ?_
      refine s_aload_n 2 dX9_casts_112 rfl rfl ?_
      refine s_iload 0 dX9_casts_113 rfl ?_
      refine s_iconst (v := 2) dX9_casts_115 ci_2 ?_
      refine s_iadd dX9_casts_116 ?_
      refine s_call_i (s_runV (ci := 5) (rest := [.int r22, .int r20, rf G 0]) h11 rfl (mX5_at l G v2 (v4 + (2 : Int32)) M23) ok_X5_at k_X9_207 rfl rfl rfl rfl dX9_casts_117) fun r24 M25 => ?_
      refine s_call_i (s_runV (ci := 7) (rest := []) rfl rfl (mX7_castLetter l G r20 r22 r24 M25) ok_X7_castLetter k_X9_76 rfl rfl rfl rfl dX9_casts_120) fun r26 M27 => ?_
      refine s_pop dX9_casts_123 rfl ?_
      refine s_iinc (k := 1) (lv' := [(3, .int (v3 + 1)), (4, .int v4), (2, rf G v2), (0, rf G 173)]) dX9_casts_124 rfl ci_1 rfl rfl ?_
      refine s_iinc (k := 1) (lv' := [(4, .int (v4 + 3)), (3, .int (v3 + 1)), (2, rf G v2), (0, rf G 173)]) dX9_casts_127 rfl ci_3 rfl rfl ?_
      refine s_goto (tgt := 48) dX9_casts_130 (by decide) ?_
      exact s_sub [0, 1, 2, 3] rfl (hq48 (v4 + 3) (v3 + 1) M27)
    · exact s_sub [1] rfl (tX9_casts_B91 l G v3 M19)
theorem tX9_casts_L48 (l : Launch) (G : Gx) (v2 : Nat) : ∀ (n : Nat) (v4 : Int32) (v3 : Int32) (M : Mm), Sim cQi l layC G 3 cX9_casts RX9 5 (some .int) 48 [(4, .int v4), (3, .int v3), (2, rf G v2), (0, rf G 173)] [] M (fX9_casts_L48 v2 n v4 v3 M)
  | 0, _, _, _ => s_none
  | n + 1, v4, v3, M => tX9_casts_L48b l G v2 _ (tX9_casts_L48 l G v2 n) v4 v3 M
def fX9_casts (a1 : Int32) (M : Mm) : Option (Int32 × Mm) :=
  bd (fX9_isPlate a1 M) fun r1 M2 =>
  if r1 = true then (gd (inb a1 4) <|
  gd (isC layC (160 + 3 * ix a1) 4) <|
  bd (fX4_isMissing (160 + 3 * ix a1) M2) fun r7 M8 =>
  if r7 = true then (bd (fX9_refuse (-1000000002 : Int32) M8) fun r9 M10 =>
  some (r9, M10))
  else fX9_casts_L48 (fR layC (160 + 3 * ix a1) 0) FU (0 : Int32) (0 : Int32) M8)
  else bd (fX9_refuse (-1000000001 : Int32) M2) fun r3 M4 =>
  some (r3, M4)
theorem mX9_casts (l : Launch) (G : Gx) (a1 : Int32) (M : Mm) : Mt cQi l layC G 3 yX9_casts cX9_casts 5 (some .int) [rf G 173, .int a1] M (fX9_casts a1 M) := by
  refine Mt.of2 (own := RX9) (lv := [(0, rf G 173), (1, .int a1)]) rfl (by decide +kernel) rfl rfl ?_
  unfold fX9_casts
  refine s_iload_n 1 dX9_casts_0 rfl rfl ?_
  refine s_call_z (s_runS (rest := []) (mX9_isPlate l G a1 M) ok_X9_isPlate k_X9_270 rfl rfl rfl rfl dX9_casts_1) fun r1 M2 => ?_
  refine s_ifneB (tgt := 14) dX9_casts_4 (by decide) ?_ ?_
  · refine s_aload_n 0 dX9_casts_14 rfl rfl ?_
    refine g_X9_59 (q := 159) rfl rfl dX9_casts_15 ?_
    refine s_iload_n 1 dX9_casts_18 rfl rfl ?_
    refine s_gd fun h5 => ?_
    refine s_aald (t := 3) (bs := 160) (sd := 3) (n := 4) rfl rfl h5 dX9_casts_19 ?_
    refine s_gd fun h6 => ?_
    refine s_call_z (s_runV (ci := 4) (rest := []) h6 rfl (mX4_isMissing l G (160 + 3 * ix a1) M2) ok_X4_isMissing k_X9_282 rfl rfl rfl rfl dX9_casts_20) fun r7 M8 => ?_
    refine s_ifeqB (tgt := 33) dX9_casts_23 (by decide) ?_ ?_
    · refine s_aload_n 0 dX9_casts_33 rfl rfl ?_
      refine g_X9_59 (q := 159) rfl rfl dX9_casts_34 ?_
      refine s_iload_n 1 dX9_casts_37 rfl rfl ?_
      refine s_aald (t := 3) (bs := 160) (sd := 3) (n := 4) rfl rfl h5 dX9_casts_38 ?_
      refine g_X9_276 (q := fR layC (160 + 3 * ix a1) 0) h6 rfl dX9_casts_39 ?_
      refine s_astore_n (lv' := [(2, rf G (fR layC (160 + 3 * ix a1) 0)), (0, rf G 173), (1, .int a1)]) dX9_casts_42 rfl rfl rfl ?_
      refine s_iconst (v := 0) dX9_casts_43 ci_0 ?_
      refine s_istore_n (lv' := [(3, .int (0 : Int32)), (2, rf G (fR layC (160 + 3 * ix a1) 0)), (0, rf G 173), (1, .int a1)]) dX9_casts_44 rfl rfl rfl ?_
      refine s_iconst (v := 0) dX9_casts_45 ci_0 ?_
      refine s_istore (lv' := [(4, .int (0 : Int32)), (3, .int (0 : Int32)), (2, rf G (fR layC (160 + 3 * ix a1) 0)), (0, rf G 173), (1, .int a1)]) dX9_casts_46 rfl rfl ?_
      exact s_sub [0, 1, 2, 3] rfl (tX9_casts_L48 l G (fR layC (160 + 3 * ix a1) 0) FU (0 : Int32) (0 : Int32) M8)
    · refine s_aload_n 0 dX9_casts_26 rfl rfl ?_
      refine s_ldc (v := -1000000002) dX9_casts_27 q_779 ?_
      refine s_call_i (s_runV (ci := 9) (rest := []) rfl rfl (mX9_refuse l G (-1000000002 : Int32) M8) ok_X9_refuse k_X9_72 rfl rfl rfl rfl dX9_casts_29) fun r9 M10 => ?_
      exact s_iret rfl dX9_casts_32
  · refine s_aload_n 0 dX9_casts_7 rfl rfl ?_
    refine s_ldc (v := -1000000001) dX9_casts_8 q_425 ?_
    refine s_call_i (s_runV (ci := 9) (rest := []) rfl rfl (mX9_refuse l G (-1000000001 : Int32) M2) ok_X9_refuse k_X9_72 rfl rfl rfl rfl dX9_casts_10) fun r3 M4 => ?_
    exact s_iret rfl dX9_casts_13
theorem dX9_judge_0 : decode cX9_judge 0 = .ok (.iload_n 1, 1) := by decide +kernel
theorem dX9_judge_1 : decode cX9_judge 1 = .ok (.invokestatic 270, 3) := by decide +kernel
theorem dX9_judge_4 : decode cX9_judge 4 = .ok (.ifCond .eq 10, 3) := by decide +kernel
theorem dX9_judge_7 : decode cX9_judge 7 = .ok (.iload_n 2, 1) := by decide +kernel
theorem dX9_judge_8 : decode cX9_judge 8 = .ok (.invokestatic 192, 3) := by decide +kernel
theorem dX9_judge_11 : decode cX9_judge 11 = .ok (.ifCond .ne 10, 3) := by decide +kernel
theorem dX9_judge_14 : decode cX9_judge 14 = .ok (.aload_n 0, 1) := by decide +kernel
theorem dX9_judge_15 : decode cX9_judge 15 = .ok (.ldc 87, 2) := by decide +kernel
theorem dX9_judge_17 : decode cX9_judge 17 = .ok (.invokevirtual 72, 3) := by decide +kernel
theorem dX9_judge_20 : decode cX9_judge 20 = .ok (.ireturn, 1) := by decide +kernel
theorem dX9_judge_21 : decode cX9_judge 21 = .ok (.aload_n 0, 1) := by decide +kernel
theorem dX9_judge_22 : decode cX9_judge 22 = .ok (.getfield 59, 3) := by decide +kernel
theorem dX9_judge_25 : decode cX9_judge 25 = .ok (.iload_n 1, 1) := by decide +kernel
theorem dX9_judge_26 : decode cX9_judge 26 = .ok (.aaload, 1) := by decide +kernel
theorem dX9_judge_27 : decode cX9_judge 27 = .ok (.invokevirtual 282, 3) := by decide +kernel
theorem dX9_judge_30 : decode cX9_judge 30 = .ok (.ifCond .eq 10, 3) := by decide +kernel
theorem dX9_judge_33 : decode cX9_judge 33 = .ok (.aload_n 0, 1) := by decide +kernel
theorem dX9_judge_34 : decode cX9_judge 34 = .ok (.ldc 223, 2) := by decide +kernel
theorem dX9_judge_36 : decode cX9_judge 36 = .ok (.invokevirtual 72, 3) := by decide +kernel
theorem dX9_judge_39 : decode cX9_judge 39 = .ok (.ireturn, 1) := by decide +kernel
theorem dX9_judge_40 : decode cX9_judge 40 = .ok (.aload_n 0, 1) := by decide +kernel
theorem dX9_judge_41 : decode cX9_judge 41 = .ok (.getfield 59, 3) := by decide +kernel
theorem dX9_judge_44 : decode cX9_judge 44 = .ok (.iload_n 1, 1) := by decide +kernel
theorem dX9_judge_45 : decode cX9_judge 45 = .ok (.aaload, 1) := by decide +kernel
theorem dX9_judge_46 : decode cX9_judge 46 = .ok (.getfield 276, 3) := by decide +kernel
theorem dX9_judge_49 : decode cX9_judge 49 = .ok (.astore_n 3, 1) := by decide +kernel
theorem dX9_judge_50 : decode cX9_judge 50 = .ok (.aload_n 0, 1) := by decide +kernel
theorem dX9_judge_51 : decode cX9_judge 51 = .ok (.getfield 24, 3) := by decide +kernel
theorem dX9_judge_54 : decode cX9_judge 54 = .ok (.iload_n 2, 1) := by decide +kernel
theorem dX9_judge_55 : decode cX9_judge 55 = .ok (.invokevirtual 213, 3) := by decide +kernel
theorem dX9_judge_58 : decode cX9_judge 58 = .ok (.iconst 0, 1) := by decide +kernel
theorem dX9_judge_59 : decode cX9_judge 59 = .ok (.istore 4, 2) := by decide +kernel
theorem dX9_judge_61 : decode cX9_judge 61 = .ok (.iload 4, 2) := by decide +kernel
theorem dX9_judge_63 : decode cX9_judge 63 = .ok (.aload_n 3, 1) := by decide +kernel
theorem dX9_judge_64 : decode cX9_judge 64 = .ok (.getfield 141, 3) := by decide +kernel
theorem dX9_judge_67 : decode cX9_judge 67 = .ok (.if_icmp .ge 32, 3) := by decide +kernel
theorem dX9_judge_70 : decode cX9_judge 70 = .ok (.aload_n 3, 1) := by decide +kernel
theorem dX9_judge_71 : decode cX9_judge 71 = .ok (.iload 4, 2) := by decide +kernel
theorem dX9_judge_73 : decode cX9_judge 73 = .ok (.invokevirtual 207, 3) := by decide +kernel
theorem dX9_judge_76 : decode cX9_judge 76 = .ok (.aload_n 0, 1) := by decide +kernel
theorem dX9_judge_77 : decode cX9_judge 77 = .ok (.getfield 24, 3) := by decide +kernel
theorem dX9_judge_80 : decode cX9_judge 80 = .ok (.invokevirtual 295, 3) := by decide +kernel
theorem dX9_judge_83 : decode cX9_judge 83 = .ok (.if_icmp .ne 16, 3) := by decide +kernel
theorem dX9_judge_86 : decode cX9_judge 86 = .ok (.aload_n 0, 1) := by decide +kernel
theorem dX9_judge_87 : decode cX9_judge 87 = .ok (.getfield 24, 3) := by decide +kernel
theorem dX9_judge_90 : decode cX9_judge 90 = .ok (.invokevirtual 224, 3) := by decide +kernel
theorem dX9_judge_93 : decode cX9_judge 93 = .ok (.iinc 4 1, 3) := by decide +kernel
theorem dX9_judge_96 : decode cX9_judge 96 = .ok (.goto (-35), 3) := by decide +kernel
theorem dX9_judge_99 : decode cX9_judge 99 = .ok (.iload 4, 2) := by decide +kernel
theorem dX9_judge_101 : decode cX9_judge 101 = .ok (.ireturn, 1) := by decide +kernel
def fX9_judge_B14 (M : Mm) : Option (Int32 × Mm) :=
  bd (fX9_refuse (-1000000001 : Int32) M) fun r5 M6 =>
  some (r5, M6)
theorem tX9_judge_B14 (l : Launch) (G : Gx) (M : Mm) : Sim cQi l layC G 5 cX9_judge RX9 5 (some .int) 14 [(0, rf G 173)] [] M (fX9_judge_B14 M) := by
  unfold fX9_judge_B14
  refine s_aload_n 0 dX9_judge_14 rfl rfl ?_
  refine s_ldc (v := -1000000001) dX9_judge_15 q_425 ?_
  refine s_call_i (s_runV (ci := 9) (rest := []) rfl rfl (mX9_refuse l G (-1000000001 : Int32) M) ok_X9_refuse k_X9_72 rfl rfl rfl rfl dX9_judge_17) fun r5 M6 => ?_
  exact s_iret rfl dX9_judge_20
def fX9_judge_B99 (v4 : Int32) (M : Mm) : Option (Int32 × Mm) :=
  some (v4, M)
theorem tX9_judge_B99 (l : Launch) (G : Gx) (v4 : Int32) (M : Mm) : Sim cQi l layC G 5 cX9_judge RX9 5 (some .int) 99 [(4, .int v4)] [] M (fX9_judge_B99 v4 M) := by
  unfold fX9_judge_B99
  refine s_iload 0 dX9_judge_99 rfl ?_
  exact s_iret rfl dX9_judge_101
def fX9_judge_L61b (v3 : Nat) (q61 : Int32 → Mm → Option (Int32 × Mm)) (v4 : Int32) (M : Mm) : Option (Int32 × Mm) :=
  gd (isC layC v3 5) <|
  if (M v3 1) ≤ v4 then (fX9_judge_B99 v4 M)
  else bd (fX5_at v3 v4 M) fun r16 M17 =>
  bd (fX0_seen M17) fun r18 M19 =>
  if r16 = r18 then (bd (fX0_passSheet M19) fun r20 M21 =>
  q61 (v4 + 1) M21)
  else fX9_judge_B99 v4 M19
def fX9_judge_L61 (v3 : Nat) : Nat → Int32 → Mm → Option (Int32 × Mm)
  | 0 => fun _ _ => none
  | n + 1 => fX9_judge_L61b v3 (fX9_judge_L61 v3 n)
theorem tX9_judge_L61b (l : Launch) (G : Gx) (v3 : Nat) (q61 : Int32 → Mm → Option (Int32 × Mm)) (hq61 : ∀ (v4 : Int32) (M : Mm), Sim cQi l layC G 5 cX9_judge RX9 5 (some .int) 61 [(4, .int v4), (3, rf G v3), (0, rf G 173)] [] M (q61 v4 M)) (v4 : Int32) (M : Mm) : Sim cQi l layC G 5 cX9_judge RX9 5 (some .int) 61 [(4, .int v4), (3, rf G v3), (0, rf G 173)] [] M (fX9_judge_L61b v3 q61 v4 M) := by
  unfold fX9_judge_L61b
  refine s_iload 0 dX9_judge_61 rfl ?_
  refine s_aload_n 1 dX9_judge_63 rfl rfl ?_
  refine s_gd fun h15 => ?_
  refine g_X9_141 h15 dX9_judge_64 ?_
  refine s_icmpge (tgt := 99) dX9_judge_67 (by decide) ?_ ?_
  · exact s_sub [0] rfl (tX9_judge_B99 l G v4 M)
  · refine s_aload_n 1 dX9_judge_70 rfl rfl ?_
    refine s_iload 0 dX9_judge_71 rfl ?_
    refine s_call_i (s_runV (ci := 5) (rest := []) h15 rfl (mX5_at l G v3 v4 M) ok_X5_at k_X9_207 rfl rfl rfl rfl dX9_judge_73) fun r16 M17 => ?_
    refine s_aload_n 2 dX9_judge_76 rfl rfl ?_
    refine g_X9_24 (q := 136) rfl rfl dX9_judge_77 ?_
    refine s_call_i (s_runV (ci := 0) (rest := [.int r16]) rfl rfl (mX0_seen l G M17) ok_X0_seen k_X9_295 rfl rfl rfl rfl dX9_judge_80) fun r18 M19 => ?_
    refine s_icmpne (tgt := 99) dX9_judge_83 (by decide) ?_ ?_
    · exact s_sub [0] rfl (tX9_judge_B99 l G v4 M19)
    · refine s_aload_n 2 dX9_judge_86 rfl rfl ?_
      refine g_X9_24 (q := 136) rfl rfl dX9_judge_87 ?_
      refine s_call_v (s_runV (ci := 0) (rest := []) rfl rfl (mX0_passSheet l G M19) ok_X0_passSheet k_X9_224 rfl rfl rfl rfl dX9_judge_90) fun r20 M21 => ?_
      refine s_iinc (k := 0) (lv' := [(4, .int (v4 + 1)), (3, rf G v3), (0, rf G 173)]) dX9_judge_93 rfl ci_1 rfl rfl ?_
      refine s_goto (tgt := 61) dX9_judge_96 (by decide) ?_
      exact s_sub [0, 1, 2] rfl (hq61 (v4 + 1) M21)
theorem tX9_judge_L61 (l : Launch) (G : Gx) (v3 : Nat) : ∀ (n : Nat) (v4 : Int32) (M : Mm), Sim cQi l layC G 5 cX9_judge RX9 5 (some .int) 61 [(4, .int v4), (3, rf G v3), (0, rf G 173)] [] M (fX9_judge_L61 v3 n v4 M)
  | 0, _, _ => s_none
  | n + 1, v4, M => tX9_judge_L61b l G v3 _ (tX9_judge_L61 l G v3 n) v4 M
def fX9_judge (a1 : Int32) (a2 : Int32) (M : Mm) : Option (Int32 × Mm) :=
  bd (fX9_isPlate a1 M) fun r1 M2 =>
  if r1 = true then (bd (fX9_isPage a2 M2) fun r3 M4 =>
  if r3 = true then (gd (inb a1 4) <|
  gd (isC layC (160 + 3 * ix a1) 4) <|
  bd (fX4_isMissing (160 + 3 * ix a1) M4) fun r9 M10 =>
  if r9 = true then (bd (fX9_refuse (-1000000002 : Int32) M10) fun r11 M12 =>
  some (r11, M12))
  else bd (fX0_startPage a2 M10) fun r13 M14 =>
  fX9_judge_L61 (fR layC (160 + 3 * ix a1) 0) FU (0 : Int32) M14)
  else fX9_judge_B14 M4)
  else fX9_judge_B14 M2
theorem mX9_judge (l : Launch) (G : Gx) (a1 : Int32) (a2 : Int32) (M : Mm) : Mt cQi l layC G 5 yX9_judge cX9_judge 5 (some .int) [rf G 173, .int a1, .int a2] M (fX9_judge a1 a2 M) := by
  refine Mt.of2 (own := RX9) (lv := [(0, rf G 173), (1, .int a1), (2, .int a2)]) rfl (by decide +kernel) rfl rfl ?_
  unfold fX9_judge
  refine s_iload_n 1 dX9_judge_0 rfl rfl ?_
  refine s_call_z (s_runS (rest := []) (mX9_isPlate l G a1 M) ok_X9_isPlate k_X9_270 rfl rfl rfl rfl dX9_judge_1) fun r1 M2 => ?_
  refine s_ifeqB (tgt := 14) dX9_judge_4 (by decide) ?_ ?_
  · exact s_sub [0] rfl (tX9_judge_B14 l G M2)
  · refine s_iload_n 2 dX9_judge_7 rfl rfl ?_
    refine s_call_z (s_runS (rest := []) (mX9_isPage l G a2 M2) ok_X9_isPage k_X9_192 rfl rfl rfl rfl dX9_judge_8) fun r3 M4 => ?_
    refine s_ifneB (tgt := 21) dX9_judge_11 (by decide) ?_ ?_
    · refine s_aload_n 0 dX9_judge_21 rfl rfl ?_
      refine g_X9_59 (q := 159) rfl rfl dX9_judge_22 ?_
      refine s_iload_n 1 dX9_judge_25 rfl rfl ?_
      refine s_gd fun h7 => ?_
      refine s_aald (t := 3) (bs := 160) (sd := 3) (n := 4) rfl rfl h7 dX9_judge_26 ?_
      refine s_gd fun h8 => ?_
      refine s_call_z (s_runV (ci := 4) (rest := []) h8 rfl (mX4_isMissing l G (160 + 3 * ix a1) M4) ok_X4_isMissing k_X9_282 rfl rfl rfl rfl dX9_judge_27) fun r9 M10 => ?_
      refine s_ifeqB (tgt := 40) dX9_judge_30 (by decide) ?_ ?_
      · refine s_aload_n 0 dX9_judge_40 rfl rfl ?_
        refine g_X9_59 (q := 159) rfl rfl dX9_judge_41 ?_
        refine s_iload_n 1 dX9_judge_44 rfl rfl ?_
        refine s_aald (t := 3) (bs := 160) (sd := 3) (n := 4) rfl rfl h7 dX9_judge_45 ?_
        refine g_X9_276 (q := fR layC (160 + 3 * ix a1) 0) h8 rfl dX9_judge_46 ?_
        refine s_astore_n (lv' := [(3, rf G (fR layC (160 + 3 * ix a1) 0)), (0, rf G 173), (1, .int a1), (2, .int a2)]) dX9_judge_49 rfl rfl rfl ?_
        refine s_aload_n 1 dX9_judge_50 rfl rfl ?_
        refine g_X9_24 (q := 136) rfl rfl dX9_judge_51 ?_
        refine s_iload_n 3 dX9_judge_54 rfl rfl ?_
        refine s_call_v (s_runV (ci := 0) (rest := []) rfl rfl (mX0_startPage l G a2 M10) ok_X0_startPage k_X9_213 rfl rfl rfl rfl dX9_judge_55) fun r13 M14 => ?_
        refine s_iconst (v := 0) dX9_judge_58 ci_0 ?_
        refine s_istore (lv' := [(4, .int (0 : Int32)), (3, rf G (fR layC (160 + 3 * ix a1) 0)), (0, rf G 173), (1, .int a1), (2, .int a2)]) dX9_judge_59 rfl rfl ?_
        exact s_sub [0, 1, 2] rfl (tX9_judge_L61 l G (fR layC (160 + 3 * ix a1) 0) FU (0 : Int32) M14)
      · refine s_aload_n 0 dX9_judge_33 rfl rfl ?_
        refine s_ldc (v := -1000000002) dX9_judge_34 q_779 ?_
        refine s_call_i (s_runV (ci := 9) (rest := []) rfl rfl (mX9_refuse l G (-1000000002 : Int32) M10) ok_X9_refuse k_X9_72 rfl rfl rfl rfl dX9_judge_36) fun r11 M12 => ?_
        exact s_iret rfl dX9_judge_39
    · exact s_sub [0] rfl (tX9_judge_B14 l G M4)
theorem dX9_image_0 : decode cX9_image 0 = .ok (.aload_n 0, 1) := by decide +kernel
theorem dX9_image_1 : decode cX9_image 1 = .ok (.getfield 16, 3) := by decide +kernel
theorem dX9_image_4 : decode cX9_image 4 = .ok (.aload_n 0, 1) := by decide +kernel
theorem dX9_image_5 : decode cX9_image 5 = .ok (.getfield 12, 3) := by decide +kernel
theorem dX9_image_8 : decode cX9_image 8 = .ok (.invokevirtual 298, 3) := by decide +kernel
theorem dX9_image_11 : decode cX9_image 11 = .ok (.aload_n 0, 1) := by decide +kernel
theorem dX9_image_12 : decode cX9_image 12 = .ok (.dup, 1) := by decide +kernel
theorem dX9_image_13 : decode cX9_image 13 = .ok (.getfield 300, 3) := by decide +kernel
theorem dX9_image_16 : decode cX9_image 16 = .ok (.iconst 1, 1) := by decide +kernel
theorem dX9_image_17 : decode cX9_image 17 = .ok (.iadd, 1) := by decide +kernel
theorem dX9_image_18 : decode cX9_image 18 = .ok (.putfield 300, 3) := by decide +kernel
theorem dX9_image_21 : decode cX9_image 21 = .ok (.aload_n 0, 1) := by decide +kernel
theorem dX9_image_22 : decode cX9_image 22 = .ok (.getfield 300, 3) := by decide +kernel
theorem dX9_image_25 : decode cX9_image 25 = .ok (.ireturn, 1) := by decide +kernel
def fX9_image  (M : Mm) : Option (Int32 × Mm) :=
  bd (fX7_takeFrom_68 M) fun r1 M2 =>
  lt (wr M2 173 2 ((M2 173 2) + (1 : Int32))) fun M3 =>
  some (M3 173 2, M3)
theorem mX9_image (l : Launch) (G : Gx)  (M : Mm) : Mt cQi l layC G 3 yX9_image cX9_image 1 (some .int) [rf G 173] M (fX9_image M) := by
  refine Mt.of2 (own := RX9) (lv := [(0, rf G 173)]) rfl (by decide +kernel) rfl rfl ?_
  unfold fX9_image
  refine s_aload_n 0 dX9_image_0 rfl rfl ?_
  refine g_X9_16 (q := 68) rfl rfl dX9_image_1 ?_
  refine s_aload_n 0 dX9_image_4 rfl rfl ?_
  refine g_X9_12 (q := 0) rfl rfl dX9_image_5 ?_
  refine s_call_v (s_runV (ci := 7) (rest := []) rfl rfl (mX7_takeFrom_68 l G M) ok_X7_takeFrom k_X9_298 rfl rfl rfl rfl dX9_image_8) fun r1 M2 => ?_
  refine s_aload_n 0 dX9_image_11 rfl rfl ?_
  refine s_dup dX9_image_12 rfl ?_
  refine g_X9_300 rfl dX9_image_13 ?_
  refine s_iconst (v := 1) dX9_image_16 ci_1 ?_
  refine s_iadd dX9_image_17 ?_
  refine p_X9_300 rfl dX9_image_18 ?_
  refine s_letM fun M3 => ?_
  refine s_aload_n 0 dX9_image_21 rfl rfl ?_
  refine g_X9_300 rfl dX9_image_22 ?_
  exact s_iret rfl dX9_image_25
theorem dX9_restore_0 : decode cX9_restore 0 = .ok (.aload_n 0, 1) := by decide +kernel
theorem dX9_restore_1 : decode cX9_restore 1 = .ok (.getfield 300, 3) := by decide +kernel
theorem dX9_restore_4 : decode cX9_restore 4 = .ok (.ifCond .ne 10, 3) := by decide +kernel
theorem dX9_restore_7 : decode cX9_restore 7 = .ok (.aload_n 0, 1) := by decide +kernel
theorem dX9_restore_8 : decode cX9_restore 8 = .ok (.ldc 223, 2) := by decide +kernel
theorem dX9_restore_10 : decode cX9_restore 10 = .ok (.invokevirtual 72, 3) := by decide +kernel
theorem dX9_restore_13 : decode cX9_restore 13 = .ok (.ireturn, 1) := by decide +kernel
theorem dX9_restore_14 : decode cX9_restore 14 = .ok (.aload_n 0, 1) := by decide +kernel
theorem dX9_restore_15 : decode cX9_restore 15 = .ok (.getfield 12, 3) := by decide +kernel
theorem dX9_restore_18 : decode cX9_restore 18 = .ok (.aload_n 0, 1) := by decide +kernel
theorem dX9_restore_19 : decode cX9_restore 19 = .ok (.getfield 16, 3) := by decide +kernel
theorem dX9_restore_22 : decode cX9_restore 22 = .ok (.invokevirtual 298, 3) := by decide +kernel
theorem dX9_restore_25 : decode cX9_restore 25 = .ok (.aload_n 0, 1) := by decide +kernel
theorem dX9_restore_26 : decode cX9_restore 26 = .ok (.getfield 12, 3) := by decide +kernel
theorem dX9_restore_29 : decode cX9_restore 29 = .ok (.getfield 135, 3) := by decide +kernel
theorem dX9_restore_32 : decode cX9_restore 32 = .ok (.ireturn, 1) := by decide +kernel
def fX9_restore  (M : Mm) : Option (Int32 × Mm) :=
  if (M 173 2) = 0 then (bd (fX9_refuse (-1000000002 : Int32) M) fun r3 M4 =>
  some (r3, M4))
  else bd (fX7_takeFrom_0 M) fun r1 M2 =>
  some (M2 0 1, M2)
theorem mX9_restore (l : Launch) (G : Gx)  (M : Mm) : Mt cQi l layC G 3 yX9_restore cX9_restore 1 (some .int) [rf G 173] M (fX9_restore M) := by
  refine Mt.of2 (own := RX9) (lv := [(0, rf G 173)]) rfl (by decide +kernel) rfl rfl ?_
  unfold fX9_restore
  refine s_aload_n 0 dX9_restore_0 rfl rfl ?_
  refine g_X9_300 rfl dX9_restore_1 ?_
  refine s_ifne (tgt := 14) dX9_restore_4 (by decide) ?_ ?_
  · refine s_aload_n 0 dX9_restore_14 rfl rfl ?_
    refine g_X9_12 (q := 0) rfl rfl dX9_restore_15 ?_
    refine s_aload_n 0 dX9_restore_18 rfl rfl ?_
    refine g_X9_16 (q := 68) rfl rfl dX9_restore_19 ?_
    refine s_call_v (s_runV (ci := 7) (rest := []) rfl rfl (mX7_takeFrom_0 l G M) ok_X7_takeFrom k_X9_298 rfl rfl rfl rfl dX9_restore_22) fun r1 M2 => ?_
    refine s_aload_n 0 dX9_restore_25 rfl rfl ?_
    refine g_X9_12 (q := 0) rfl rfl dX9_restore_26 ?_
    refine g_X9_135 rfl dX9_restore_29 ?_
    exact s_iret rfl dX9_restore_32
  · refine s_aload_n 0 dX9_restore_7 rfl rfl ?_
    refine s_ldc (v := -1000000002) dX9_restore_8 q_779 ?_
    refine s_call_i (s_runV (ci := 9) (rest := []) rfl rfl (mX9_refuse l G (-1000000002 : Int32) M) ok_X9_refuse k_X9_72 rfl rfl rfl rfl dX9_restore_10) fun r3 M4 => ?_
    exact s_iret rfl dX9_restore_13
theorem dX9_tell_0 : decode cX9_tell 0 = .ok (.aload_n 0, 1) := by decide +kernel
theorem dX9_tell_1 : decode cX9_tell 1 = .ok (.getfield 12, 3) := by decide +kernel
theorem dX9_tell_4 : decode cX9_tell 4 = .ok (.getfield 303, 3) := by decide +kernel
theorem dX9_tell_7 : decode cX9_tell 7 = .ok (.iload_n 1, 1) := by decide +kernel
theorem dX9_tell_8 : decode cX9_tell 8 = .ok (.invokevirtual 147, 3) := by decide +kernel
theorem dX9_tell_11 : decode cX9_tell 11 = .ok (.ifCond .eq 16, 3) := by decide +kernel
theorem dX9_tell_14 : decode cX9_tell 14 = .ok (.aload_n 0, 1) := by decide +kernel
theorem dX9_tell_15 : decode cX9_tell 15 = .ok (.getfield 12, 3) := by decide +kernel
theorem dX9_tell_18 : decode cX9_tell 18 = .ok (.getfield 303, 3) := by decide +kernel
theorem dX9_tell_21 : decode cX9_tell 21 = .ok (.getfield 141, 3) := by decide +kernel
theorem dX9_tell_24 : decode cX9_tell 24 = .ok (.goto 9, 3) := by decide +kernel
theorem dX9_tell_27 : decode cX9_tell 27 = .ok (.aload_n 0, 1) := by decide +kernel
theorem dX9_tell_28 : decode cX9_tell 28 = .ok (.ldc 146, 2) := by decide +kernel
theorem dX9_tell_30 : decode cX9_tell 30 = .ok (.invokevirtual 72, 3) := by decide +kernel
theorem dX9_tell_33 : decode cX9_tell 33 = .ok (.ireturn, 1) := by decide +kernel
def fX9_tell_B33 (w0 : Int32) (M : Mm) : Option (Int32 × Mm) :=
  some (w0, M)
theorem tX9_tell_B33 (l : Launch) (G : Gx) (w0 : Int32) (M : Mm) : Sim cQi l layC G 3 cX9_tell RX9 2 (some .int) 33 [] [.int w0] M (fX9_tell_B33 w0 M) := by
  unfold fX9_tell_B33
  exact s_iret rfl dX9_tell_33
def fX9_tell (a1 : Int32) (M : Mm) : Option (Int32 × Mm) :=
  bd (fX5_add 66 a1 M) fun r1 M2 =>
  if r1 = true then (fX9_tell_B33 (M2 66 1) M2)
  else bd (fX9_refuse (-1000000004 : Int32) M2) fun r3 M4 =>
  fX9_tell_B33 r3 M4
theorem mX9_tell (l : Launch) (G : Gx) (a1 : Int32) (M : Mm) : Mt cQi l layC G 3 yX9_tell cX9_tell 2 (some .int) [rf G 173, .int a1] M (fX9_tell a1 M) := by
  refine Mt.of2 (own := RX9) (lv := [(0, rf G 173), (1, .int a1)]) rfl (by decide +kernel) rfl rfl ?_
  unfold fX9_tell
  refine s_aload_n 0 dX9_tell_0 rfl rfl ?_
  refine g_X9_12 (q := 0) rfl rfl dX9_tell_1 ?_
  refine g_X9_303 (q := 66) rfl rfl dX9_tell_4 ?_
  refine s_iload_n 1 dX9_tell_7 rfl rfl ?_
  refine s_call_z (s_runV (ci := 5) (rest := []) rfl rfl (mX5_add l G 66 a1 M) ok_X5_add k_X9_147 rfl rfl rfl rfl dX9_tell_8) fun r1 M2 => ?_
  refine s_ifeqB (tgt := 27) dX9_tell_11 (by decide) ?_ ?_
  · refine s_aload_n 0 dX9_tell_27 rfl rfl ?_
    refine s_ldc (v := -1000000004) dX9_tell_28 q_516 ?_
    refine s_call_i (s_runV (ci := 9) (rest := []) rfl rfl (mX9_refuse l G (-1000000004 : Int32) M2) ok_X9_refuse k_X9_72 rfl rfl rfl rfl dX9_tell_30) fun r3 M4 => ?_
    exact s_sub [] rfl (tX9_tell_B33 l G r3 M4)
  · refine s_aload_n 0 dX9_tell_14 rfl rfl ?_
    refine g_X9_12 (q := 0) rfl rfl dX9_tell_15 ?_
    refine g_X9_303 (q := 66) rfl rfl dX9_tell_18 ?_
    refine g_X9_141 rfl dX9_tell_21 ?_
    refine s_goto (tgt := 33) dX9_tell_24 (by decide) ?_
    exact s_sub [] rfl (tX9_tell_B33 l G (M2 66 1) M2)
theorem dX9_check_0 : decode cX9_check 0 = .ok (.iload_n 1, 1) := by decide +kernel
theorem dX9_check_1 : decode cX9_check 1 = .ok (.invokestatic 192, 3) := by decide +kernel
theorem dX9_check_4 : decode cX9_check 4 = .ok (.ifCond .eq 14, 3) := by decide +kernel
theorem dX9_check_7 : decode cX9_check 7 = .ok (.aload_n 0, 1) := by decide +kernel
theorem dX9_check_8 : decode cX9_check 8 = .ok (.getfield 12, 3) := by decide +kernel
theorem dX9_check_11 : decode cX9_check 11 = .ok (.iload_n 1, 1) := by decide +kernel
theorem dX9_check_12 : decode cX9_check 12 = .ok (.invokevirtual 306, 3) := by decide +kernel
theorem dX9_check_15 : decode cX9_check 15 = .ok (.goto 9, 3) := by decide +kernel
theorem dX9_check_18 : decode cX9_check 18 = .ok (.aload_n 0, 1) := by decide +kernel
theorem dX9_check_19 : decode cX9_check 19 = .ok (.ldc 87, 2) := by decide +kernel
theorem dX9_check_21 : decode cX9_check 21 = .ok (.invokevirtual 72, 3) := by decide +kernel
theorem dX9_check_24 : decode cX9_check 24 = .ok (.istore_n 2, 1) := by decide +kernel
theorem dX9_check_25 : decode cX9_check 25 = .ok (.aload_n 0, 1) := by decide +kernel
theorem dX9_check_26 : decode cX9_check 26 = .ok (.getfield 12, 3) := by decide +kernel
theorem dX9_check_29 : decode cX9_check 29 = .ok (.getfield 303, 3) := by decide +kernel
theorem dX9_check_32 : decode cX9_check 32 = .ok (.invokevirtual 158, 3) := by decide +kernel
theorem dX9_check_35 : decode cX9_check 35 = .ok (.iload_n 2, 1) := by decide +kernel
theorem dX9_check_36 : decode cX9_check 36 = .ok (.ireturn, 1) := by decide +kernel
def fX9_check_B24 (w0 : Int32) (M : Mm) : Option (Int32 × Mm) :=
  bd (fX5_clear 66 M) fun r5 M6 =>
  some (w0, M6)
theorem tX9_check_B24 (l : Launch) (G : Gx) (w0 : Int32) (M : Mm) : Sim cQi l layC G 5 cX9_check RX9 3 (some .int) 24 [(0, rf G 173)] [.int w0] M (fX9_check_B24 w0 M) := by
  unfold fX9_check_B24
  refine s_istore_n (lv' := [(2, .int w0), (0, rf G 173)]) dX9_check_24 rfl rfl rfl ?_
  refine s_aload_n 1 dX9_check_25 rfl rfl ?_
  refine g_X9_12 (q := 0) rfl rfl dX9_check_26 ?_
  refine g_X9_303 (q := 66) rfl rfl dX9_check_29 ?_
  refine s_call_v (s_runV (ci := 5) (rest := []) rfl rfl (mX5_clear l G 66 M) ok_X5_clear k_X9_158 rfl rfl rfl rfl dX9_check_32) fun r5 M6 => ?_
  refine s_iload_n 0 dX9_check_35 rfl rfl ?_
  exact s_iret rfl dX9_check_36
def fX9_check (a1 : Int32) (M : Mm) : Option (Int32 × Mm) :=
  bd (fX9_isPage a1 M) fun r1 M2 =>
  if r1 = true then (bd (fX7_checkWaiting a1 M2) fun r3 M4 =>
  fX9_check_B24 r3 M4)
  else bd (fX9_refuse (-1000000001 : Int32) M2) fun r7 M8 =>
  fX9_check_B24 r7 M8
theorem mX9_check (l : Launch) (G : Gx) (a1 : Int32) (M : Mm) : Mt cQi l layC G 5 yX9_check cX9_check 3 (some .int) [rf G 173, .int a1] M (fX9_check a1 M) := by
  refine Mt.of2 (own := RX9) (lv := [(0, rf G 173), (1, .int a1)]) rfl (by decide +kernel) rfl rfl ?_
  unfold fX9_check
  refine s_iload_n 1 dX9_check_0 rfl rfl ?_
  refine s_call_z (s_runS (rest := []) (mX9_isPage l G a1 M) ok_X9_isPage k_X9_192 rfl rfl rfl rfl dX9_check_1) fun r1 M2 => ?_
  refine s_ifeqB (tgt := 18) dX9_check_4 (by decide) ?_ ?_
  · refine s_aload_n 0 dX9_check_18 rfl rfl ?_
    refine s_ldc (v := -1000000001) dX9_check_19 q_425 ?_
    refine s_call_i (s_runV (ci := 9) (rest := []) rfl rfl (mX9_refuse l G (-1000000001 : Int32) M2) ok_X9_refuse k_X9_72 rfl rfl rfl rfl dX9_check_21) fun r7 M8 => ?_
    exact s_sub [0] rfl (tX9_check_B24 l G r7 M8)
  · refine s_aload_n 0 dX9_check_7 rfl rfl ?_
    refine g_X9_12 (q := 0) rfl rfl dX9_check_8 ?_
    refine s_iload_n 1 dX9_check_11 rfl rfl ?_
    refine s_call_i (s_runV (ci := 7) (rest := []) rfl rfl (mX7_checkWaiting l G a1 M2) ok_X7_checkWaiting k_X9_306 rfl rfl rfl rfl dX9_check_12) fun r3 M4 => ?_
    refine s_goto (tgt := 24) dX9_check_15 (by decide) ?_
    exact s_sub [0] rfl (tX9_check_B24 l G r3 M4)
theorem dX9_count_0 : decode cX9_count 0 = .ok (.iload_n 1, 1) := by decide +kernel
theorem dX9_count_1 : decode cX9_count 1 = .ok (.tableswitch 144 0 9 #[55, 63, 71, 79, 87, 95, 103, 114, 125, 136], 55) := by decide +kernel
theorem dX9_count_56 : decode cX9_count 56 = .ok (.aload_n 0, 1) := by decide +kernel
theorem dX9_count_57 : decode cX9_count 57 = .ok (.getfield 12, 3) := by decide +kernel
theorem dX9_count_60 : decode cX9_count 60 = .ok (.getfield 309, 3) := by decide +kernel
theorem dX9_count_63 : decode cX9_count 63 = .ok (.ireturn, 1) := by decide +kernel
theorem dX9_count_64 : decode cX9_count 64 = .ok (.aload_n 0, 1) := by decide +kernel
theorem dX9_count_65 : decode cX9_count 65 = .ok (.getfield 12, 3) := by decide +kernel
theorem dX9_count_68 : decode cX9_count 68 = .ok (.getfield 178, 3) := by decide +kernel
theorem dX9_count_71 : decode cX9_count 71 = .ok (.ireturn, 1) := by decide +kernel
theorem dX9_count_72 : decode cX9_count 72 = .ok (.aload_n 0, 1) := by decide +kernel
theorem dX9_count_73 : decode cX9_count 73 = .ok (.getfield 12, 3) := by decide +kernel
theorem dX9_count_76 : decode cX9_count 76 = .ok (.getfield 135, 3) := by decide +kernel
theorem dX9_count_79 : decode cX9_count 79 = .ok (.ireturn, 1) := by decide +kernel
theorem dX9_count_80 : decode cX9_count 80 = .ok (.aload_n 0, 1) := by decide +kernel
theorem dX9_count_81 : decode cX9_count 81 = .ok (.getfield 12, 3) := by decide +kernel
theorem dX9_count_84 : decode cX9_count 84 = .ok (.getfield 138, 3) := by decide +kernel
theorem dX9_count_87 : decode cX9_count 87 = .ok (.ireturn, 1) := by decide +kernel
theorem dX9_count_88 : decode cX9_count 88 = .ok (.aload_n 0, 1) := by decide +kernel
theorem dX9_count_89 : decode cX9_count 89 = .ok (.getfield 12, 3) := by decide +kernel
theorem dX9_count_92 : decode cX9_count 92 = .ok (.getfield 128, 3) := by decide +kernel
theorem dX9_count_95 : decode cX9_count 95 = .ok (.ireturn, 1) := by decide +kernel
theorem dX9_count_96 : decode cX9_count 96 = .ok (.aload_n 0, 1) := by decide +kernel
theorem dX9_count_97 : decode cX9_count 97 = .ok (.getfield 12, 3) := by decide +kernel
theorem dX9_count_100 : decode cX9_count 100 = .ok (.invokevirtual 312, 3) := by decide +kernel
theorem dX9_count_103 : decode cX9_count 103 = .ok (.ireturn, 1) := by decide +kernel
theorem dX9_count_104 : decode cX9_count 104 = .ok (.aload_n 0, 1) := by decide +kernel
theorem dX9_count_105 : decode cX9_count 105 = .ok (.getfield 12, 3) := by decide +kernel
theorem dX9_count_108 : decode cX9_count 108 = .ok (.getfield 39, 3) := by decide +kernel
theorem dX9_count_111 : decode cX9_count 111 = .ok (.getfield 141, 3) := by decide +kernel
theorem dX9_count_114 : decode cX9_count 114 = .ok (.ireturn, 1) := by decide +kernel
theorem dX9_count_115 : decode cX9_count 115 = .ok (.aload_n 0, 1) := by decide +kernel
theorem dX9_count_116 : decode cX9_count 116 = .ok (.getfield 12, 3) := by decide +kernel
theorem dX9_count_119 : decode cX9_count 119 = .ok (.getfield 303, 3) := by decide +kernel
theorem dX9_count_122 : decode cX9_count 122 = .ok (.getfield 141, 3) := by decide +kernel
theorem dX9_count_125 : decode cX9_count 125 = .ok (.ireturn, 1) := by decide +kernel
theorem dX9_count_126 : decode cX9_count 126 = .ok (.aload_n 0, 1) := by decide +kernel
theorem dX9_count_127 : decode cX9_count 127 = .ok (.getfield 53, 3) := by decide +kernel
theorem dX9_count_130 : decode cX9_count 130 = .ok (.getfield 267, 3) := by decide +kernel
theorem dX9_count_133 : decode cX9_count 133 = .ok (.getfield 141, 3) := by decide +kernel
theorem dX9_count_136 : decode cX9_count 136 = .ok (.ireturn, 1) := by decide +kernel
theorem dX9_count_137 : decode cX9_count 137 = .ok (.aload_n 0, 1) := by decide +kernel
theorem dX9_count_138 : decode cX9_count 138 = .ok (.getfield 12, 3) := by decide +kernel
theorem dX9_count_141 : decode cX9_count 141 = .ok (.getfield 255, 3) := by decide +kernel
theorem dX9_count_144 : decode cX9_count 144 = .ok (.ireturn, 1) := by decide +kernel
theorem dX9_count_145 : decode cX9_count 145 = .ok (.iload_n 1, 1) := by decide +kernel
theorem dX9_count_146 : decode cX9_count 146 = .ok (.bipush 10, 2) := by decide +kernel
theorem dX9_count_148 : decode cX9_count 148 = .ok (.bipush 13, 2) := by decide +kernel
theorem dX9_count_150 : decode cX9_count 150 = .ok (.invokestatic 83, 3) := by decide +kernel
theorem dX9_count_153 : decode cX9_count 153 = .ok (.ifCond .eq 18, 3) := by decide +kernel
theorem dX9_count_156 : decode cX9_count 156 = .ok (.aload_n 0, 1) := by decide +kernel
theorem dX9_count_157 : decode cX9_count 157 = .ok (.getfield 12, 3) := by decide +kernel
theorem dX9_count_160 : decode cX9_count 160 = .ok (.getfield 131, 3) := by decide +kernel
theorem dX9_count_163 : decode cX9_count 163 = .ok (.iload_n 1, 1) := by decide +kernel
theorem dX9_count_164 : decode cX9_count 164 = .ok (.bipush 10, 2) := by decide +kernel
theorem dX9_count_166 : decode cX9_count 166 = .ok (.isub, 1) := by decide +kernel
theorem dX9_count_167 : decode cX9_count 167 = .ok (.iaload, 1) := by decide +kernel
theorem dX9_count_168 : decode cX9_count 168 = .ok (.goto 9, 3) := by decide +kernel
theorem dX9_count_171 : decode cX9_count 171 = .ok (.aload_n 0, 1) := by decide +kernel
theorem dX9_count_172 : decode cX9_count 172 = .ok (.ldc 87, 2) := by decide +kernel
theorem dX9_count_174 : decode cX9_count 174 = .ok (.invokevirtual 72, 3) := by decide +kernel
theorem dX9_count_177 : decode cX9_count 177 = .ok (.ireturn, 1) := by decide +kernel
def fX9_count_B177 (w0 : Int32) (M : Mm) : Option (Int32 × Mm) :=
  some (w0, M)
theorem tX9_count_B177 (l : Launch) (G : Gx) (w0 : Int32) (M : Mm) : Sim cQi l layC G 3 cX9_count RX9 2 (some .int) 177 [] [.int w0] M (fX9_count_B177 w0 M) := by
  unfold fX9_count_B177
  exact s_iret rfl dX9_count_177
def fX9_count (a1 : Int32) (M : Mm) : Option (Int32 × Mm) :=
  if a1 = 0 then (some (M 0 6, M))
  else if a1 = 1 then (some (M 0 12, M))
  else if a1 = 2 then (some (M 0 1, M))
  else if a1 = 3 then (some (M 0 2, M))
  else if a1 = 4 then (some (M 0 3, M))
  else if a1 = 5 then (bd (fX7_iceOfAll M) fun r1 M2 =>
  some (r1, M2))
  else if a1 = 6 then (some (M 64 1, M))
  else if a1 = 7 then (some (M 66 1, M))
  else if a1 = 8 then (some (M 157 1, M))
  else if a1 = 9 then (some (M 0 4, M))
  else bd (fX9_isWithin a1 (10 : Int32) (13 : Int32) M) fun r3 M4 =>
  if r3 = true then (gd (inb (a1 - (10 : Int32)) 4) <|
  fX9_count_B177 (M4 1 (ix (a1 - (10 : Int32)))) M4)
  else bd (fX9_refuse (-1000000001 : Int32) M4) fun r6 M7 =>
  fX9_count_B177 r6 M7
theorem mX9_count (l : Launch) (G : Gx) (a1 : Int32) (M : Mm) : Mt cQi l layC G 3 yX9_count cX9_count 2 (some .int) [rf G 173, .int a1] M (fX9_count a1 M) := by
  refine Mt.of2 (own := RX9) (lv := [(0, rf G 173), (1, .int a1)]) rfl (by decide +kernel) rfl rfl ?_
  unfold fX9_count
  refine s_iload_n 1 dX9_count_0 rfl rfl ?_
  refine s_table (tgt := 145) dX9_count_1 (by decide) (by decide) (by decide) ?_
  refine lk_cons (k := 0) (tgt := 56) (by decide) (by decide) ?_ ?_
  · refine s_aload_n 0 dX9_count_56 rfl rfl ?_
    refine g_X9_12 (q := 0) rfl rfl dX9_count_57 ?_
    refine g_X9_309 rfl dX9_count_60 ?_
    exact s_iret rfl dX9_count_63
  refine lk_cons (k := 1) (tgt := 64) (by decide) (by decide) ?_ ?_
  · refine s_aload_n 0 dX9_count_64 rfl rfl ?_
    refine g_X9_12 (q := 0) rfl rfl dX9_count_65 ?_
    refine g_X9_178 rfl dX9_count_68 ?_
    exact s_iret rfl dX9_count_71
  refine lk_cons (k := 2) (tgt := 72) (by decide) (by decide) ?_ ?_
  · refine s_aload_n 0 dX9_count_72 rfl rfl ?_
    refine g_X9_12 (q := 0) rfl rfl dX9_count_73 ?_
    refine g_X9_135 rfl dX9_count_76 ?_
    exact s_iret rfl dX9_count_79
  refine lk_cons (k := 3) (tgt := 80) (by decide) (by decide) ?_ ?_
  · refine s_aload_n 0 dX9_count_80 rfl rfl ?_
    refine g_X9_12 (q := 0) rfl rfl dX9_count_81 ?_
    refine g_X9_138 rfl dX9_count_84 ?_
    exact s_iret rfl dX9_count_87
  refine lk_cons (k := 4) (tgt := 88) (by decide) (by decide) ?_ ?_
  · refine s_aload_n 0 dX9_count_88 rfl rfl ?_
    refine g_X9_12 (q := 0) rfl rfl dX9_count_89 ?_
    refine g_X9_128 rfl dX9_count_92 ?_
    exact s_iret rfl dX9_count_95
  refine lk_cons (k := 5) (tgt := 96) (by decide) (by decide) ?_ ?_
  · refine s_aload_n 0 dX9_count_96 rfl rfl ?_
    refine g_X9_12 (q := 0) rfl rfl dX9_count_97 ?_
    refine s_call_i (s_runV (ci := 7) (rest := []) rfl rfl (mX7_iceOfAll l G M) ok_X7_iceOfAll k_X9_312 rfl rfl rfl rfl dX9_count_100) fun r1 M2 => ?_
    exact s_iret rfl dX9_count_103
  refine lk_cons (k := 6) (tgt := 104) (by decide) (by decide) ?_ ?_
  · refine s_aload_n 0 dX9_count_104 rfl rfl ?_
    refine g_X9_12 (q := 0) rfl rfl dX9_count_105 ?_
    refine g_X9_39 (q := 64) rfl rfl dX9_count_108 ?_
    refine g_X9_141 rfl dX9_count_111 ?_
    exact s_iret rfl dX9_count_114
  refine lk_cons (k := 7) (tgt := 115) (by decide) (by decide) ?_ ?_
  · refine s_aload_n 0 dX9_count_115 rfl rfl ?_
    refine g_X9_12 (q := 0) rfl rfl dX9_count_116 ?_
    refine g_X9_303 (q := 66) rfl rfl dX9_count_119 ?_
    refine g_X9_141 rfl dX9_count_122 ?_
    exact s_iret rfl dX9_count_125
  refine lk_cons (k := 8) (tgt := 126) (by decide) (by decide) ?_ ?_
  · refine s_aload_n 0 dX9_count_126 rfl rfl ?_
    refine g_X9_53 (q := 156) rfl rfl dX9_count_127 ?_
    refine g_X9_267 (q := 157) rfl rfl dX9_count_130 ?_
    refine g_X9_141 rfl dX9_count_133 ?_
    exact s_iret rfl dX9_count_136
  refine lk_cons (k := 9) (tgt := 137) (by decide) (by decide) ?_ ?_
  · refine s_aload_n 0 dX9_count_137 rfl rfl ?_
    refine g_X9_12 (q := 0) rfl rfl dX9_count_138 ?_
    refine g_X9_255 rfl dX9_count_141 ?_
    exact s_iret rfl dX9_count_144
  refine lk_nil (tgt := 145) (by decide) ?_
  refine s_iload_n 1 dX9_count_145 rfl rfl ?_
  refine s_bipush (v := 10) dX9_count_146 cb_10 ?_
  refine s_bipush (v := 13) dX9_count_148 cb_13 ?_
  refine s_call_z (s_runS (rest := []) (mX9_isWithin l G a1 (10 : Int32) (13 : Int32) M) ok_X9_isWithin k_X9_83 rfl rfl rfl rfl dX9_count_150) fun r3 M4 => ?_
  refine s_ifeqB (tgt := 171) dX9_count_153 (by decide) ?_ ?_
  · refine s_aload_n 0 dX9_count_171 rfl rfl ?_
    refine s_ldc (v := -1000000001) dX9_count_172 q_425 ?_
    refine s_call_i (s_runV (ci := 9) (rest := []) rfl rfl (mX9_refuse l G (-1000000001 : Int32) M4) ok_X9_refuse k_X9_72 rfl rfl rfl rfl dX9_count_174) fun r6 M7 => ?_
    exact s_sub [] rfl (tX9_count_B177 l G r6 M7)
  · refine s_aload_n 0 dX9_count_156 rfl rfl ?_
    refine g_X9_12 (q := 0) rfl rfl dX9_count_157 ?_
    refine g_X9_131 (q := 1) rfl rfl dX9_count_160 ?_
    refine s_iload_n 1 dX9_count_163 rfl rfl ?_
    refine s_bipush (v := 10) dX9_count_164 cb_10 ?_
    refine s_isub dX9_count_166 ?_
    refine s_gd fun h5 => ?_
    refine s_iald (n := 4) rfl h5 dX9_count_167 ?_
    refine s_goto (tgt := 177) dX9_count_168 (by decide) ?_
    exact s_sub [] rfl (tX9_count_B177 l G (M4 1 (ix (a1 - (10 : Int32)))) M4)
theorem dX9_told_0 : decode cX9_told 0 = .ok (.iload_n 1, 1) := by decide +kernel
theorem dX9_told_1 : decode cX9_told 1 = .ok (.iconst 1, 1) := by decide +kernel
theorem dX9_told_2 : decode cX9_told 2 = .ok (.bipush 6, 2) := by decide +kernel
theorem dX9_told_4 : decode cX9_told 4 = .ok (.invokestatic 83, 3) := by decide +kernel
theorem dX9_told_7 : decode cX9_told 7 = .ok (.ifCond .eq 12, 3) := by decide +kernel
theorem dX9_told_10 : decode cX9_told 10 = .ok (.aload_n 0, 1) := by decide +kernel
theorem dX9_told_11 : decode cX9_told 11 = .ok (.getfield 63, 3) := by decide +kernel
theorem dX9_told_14 : decode cX9_told 14 = .ok (.iload_n 1, 1) := by decide +kernel
theorem dX9_told_15 : decode cX9_told 15 = .ok (.iaload, 1) := by decide +kernel
theorem dX9_told_16 : decode cX9_told 16 = .ok (.goto 9, 3) := by decide +kernel
theorem dX9_told_19 : decode cX9_told 19 = .ok (.aload_n 0, 1) := by decide +kernel
theorem dX9_told_20 : decode cX9_told 20 = .ok (.ldc 87, 2) := by decide +kernel
theorem dX9_told_22 : decode cX9_told 22 = .ok (.invokevirtual 72, 3) := by decide +kernel
theorem dX9_told_25 : decode cX9_told 25 = .ok (.ireturn, 1) := by decide +kernel
def fX9_told_B25 (w0 : Int32) (M : Mm) : Option (Int32 × Mm) :=
  some (w0, M)
theorem tX9_told_B25 (l : Launch) (G : Gx) (w0 : Int32) (M : Mm) : Sim cQi l layC G 3 cX9_told RX9 2 (some .int) 25 [] [.int w0] M (fX9_told_B25 w0 M) := by
  unfold fX9_told_B25
  exact s_iret rfl dX9_told_25
def fX9_told (a1 : Int32) (M : Mm) : Option (Int32 × Mm) :=
  bd (fX9_isWithin a1 (1 : Int32) (6 : Int32) M) fun r1 M2 =>
  if r1 = true then (gd (inb a1 7) <|
  fX9_told_B25 (M2 172 (ix a1)) M2)
  else bd (fX9_refuse (-1000000001 : Int32) M2) fun r4 M5 =>
  fX9_told_B25 r4 M5
theorem mX9_told (l : Launch) (G : Gx) (a1 : Int32) (M : Mm) : Mt cQi l layC G 3 yX9_told cX9_told 2 (some .int) [rf G 173, .int a1] M (fX9_told a1 M) := by
  refine Mt.of2 (own := RX9) (lv := [(0, rf G 173), (1, .int a1)]) rfl (by decide +kernel) rfl rfl ?_
  unfold fX9_told
  refine s_iload_n 1 dX9_told_0 rfl rfl ?_
  refine s_iconst (v := 1) dX9_told_1 ci_1 ?_
  refine s_bipush (v := 6) dX9_told_2 cb_6 ?_
  refine s_call_z (s_runS (rest := []) (mX9_isWithin l G a1 (1 : Int32) (6 : Int32) M) ok_X9_isWithin k_X9_83 rfl rfl rfl rfl dX9_told_4) fun r1 M2 => ?_
  refine s_ifeqB (tgt := 19) dX9_told_7 (by decide) ?_ ?_
  · refine s_aload_n 0 dX9_told_19 rfl rfl ?_
    refine s_ldc (v := -1000000001) dX9_told_20 q_425 ?_
    refine s_call_i (s_runV (ci := 9) (rest := []) rfl rfl (mX9_refuse l G (-1000000001 : Int32) M2) ok_X9_refuse k_X9_72 rfl rfl rfl rfl dX9_told_22) fun r4 M5 => ?_
    exact s_sub [] rfl (tX9_told_B25 l G r4 M5)
  · refine s_aload_n 0 dX9_told_10 rfl rfl ?_
    refine g_X9_63 (q := 172) rfl rfl dX9_told_11 ?_
    refine s_iload_n 1 dX9_told_14 rfl rfl ?_
    refine s_gd fun h3 => ?_
    refine s_iald (n := 7) rfl h3 dX9_told_15 ?_
    refine s_goto (tgt := 25) dX9_told_16 (by decide) ?_
    exact s_sub [] rfl (tX9_told_B25 l G (M2 172 (ix a1)) M2)
