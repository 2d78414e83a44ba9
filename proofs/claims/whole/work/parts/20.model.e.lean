theorem dX10_readsBy_0 : decode cX10_readsBy 0 = .ok (.iload_n 1, 1) := by decide +kernel
theorem dX10_readsBy_1 : decode cX10_readsBy 1 = .ok (.tableswitch 119 0 6 #[43, 119, 61, 119, 79, 119, 97], 43) := by decide +kernel
theorem dX10_readsBy_44 : decode cX10_readsBy 44 = .ok (.aload_n 0, 1) := by decide +kernel
theorem dX10_readsBy_45 : decode cX10_readsBy 45 = .ok (.bipush 11, 2) := by decide +kernel
theorem dX10_readsBy_47 : decode cX10_readsBy 47 = .ok (.invokevirtual 238, 3) := by decide +kernel
theorem dX10_readsBy_50 : decode cX10_readsBy 50 = .ok (.aload_n 0, 1) := by decide +kernel
theorem dX10_readsBy_51 : decode cX10_readsBy 51 = .ok (.aload_n 0, 1) := by decide +kernel
theorem dX10_readsBy_52 : decode cX10_readsBy 52 = .ok (.invokevirtual 247, 3) := by decide +kernel
theorem dX10_readsBy_55 : decode cX10_readsBy 55 = .ok (.iload_n 2, 1) := by decide +kernel
theorem dX10_readsBy_56 : decode cX10_readsBy 56 = .ok (.invokevirtual 244, 3) := by decide +kernel
theorem dX10_readsBy_59 : decode cX10_readsBy 59 = .ok (.iconst 2, 1) := by decide +kernel
theorem dX10_readsBy_60 : decode cX10_readsBy 60 = .ok (.imul, 1) := by decide +kernel
theorem dX10_readsBy_61 : decode cX10_readsBy 61 = .ok (.ireturn, 1) := by decide +kernel
theorem dX10_readsBy_62 : decode cX10_readsBy 62 = .ok (.aload_n 0, 1) := by decide +kernel
theorem dX10_readsBy_63 : decode cX10_readsBy 63 = .ok (.bipush 30, 2) := by decide +kernel
theorem dX10_readsBy_65 : decode cX10_readsBy 65 = .ok (.invokevirtual 238, 3) := by decide +kernel
theorem dX10_readsBy_68 : decode cX10_readsBy 68 = .ok (.iconst 0, 1) := by decide +kernel
theorem dX10_readsBy_69 : decode cX10_readsBy 69 = .ok (.aload_n 0, 1) := by decide +kernel
theorem dX10_readsBy_70 : decode cX10_readsBy 70 = .ok (.iconst 2, 1) := by decide +kernel
theorem dX10_readsBy_71 : decode cX10_readsBy 71 = .ok (.invokestatic 241, 3) := by decide +kernel
theorem dX10_readsBy_74 : decode cX10_readsBy 74 = .ok (.iload_n 2, 1) := by decide +kernel
theorem dX10_readsBy_75 : decode cX10_readsBy 75 = .ok (.invokevirtual 250, 3) := by decide +kernel
theorem dX10_readsBy_78 : decode cX10_readsBy 78 = .ok (.isub, 1) := by decide +kernel
theorem dX10_readsBy_79 : decode cX10_readsBy 79 = .ok (.ireturn, 1) := by decide +kernel
theorem dX10_readsBy_80 : decode cX10_readsBy 80 = .ok (.aload_n 0, 1) := by decide +kernel
theorem dX10_readsBy_81 : decode cX10_readsBy 81 = .ok (.bipush 50, 2) := by decide +kernel
theorem dX10_readsBy_83 : decode cX10_readsBy 83 = .ok (.invokevirtual 238, 3) := by decide +kernel
theorem dX10_readsBy_86 : decode cX10_readsBy 86 = .ok (.aload_n 0, 1) := by decide +kernel
theorem dX10_readsBy_87 : decode cX10_readsBy 87 = .ok (.iconst 4, 1) := by decide +kernel
theorem dX10_readsBy_88 : decode cX10_readsBy 88 = .ok (.invokestatic 241, 3) := by decide +kernel
theorem dX10_readsBy_91 : decode cX10_readsBy 91 = .ok (.iload_n 2, 1) := by decide +kernel
theorem dX10_readsBy_92 : decode cX10_readsBy 92 = .ok (.iconst 1, 1) := by decide +kernel
theorem dX10_readsBy_93 : decode cX10_readsBy 93 = .ok (.iadd, 1) := by decide +kernel
theorem dX10_readsBy_94 : decode cX10_readsBy 94 = .ok (.invokevirtual 250, 3) := by decide +kernel
theorem dX10_readsBy_97 : decode cX10_readsBy 97 = .ok (.ireturn, 1) := by decide +kernel
theorem dX10_readsBy_98 : decode cX10_readsBy 98 = .ok (.aload_n 0, 1) := by decide +kernel
theorem dX10_readsBy_99 : decode cX10_readsBy 99 = .ok (.bipush 71, 2) := by decide +kernel
theorem dX10_readsBy_101 : decode cX10_readsBy 101 = .ok (.invokevirtual 238, 3) := by decide +kernel
theorem dX10_readsBy_104 : decode cX10_readsBy 104 = .ok (.aload_n 0, 1) := by decide +kernel
theorem dX10_readsBy_105 : decode cX10_readsBy 105 = .ok (.bipush 6, 2) := by decide +kernel
theorem dX10_readsBy_107 : decode cX10_readsBy 107 = .ok (.invokestatic 241, 3) := by decide +kernel
theorem dX10_readsBy_110 : decode cX10_readsBy 110 = .ok (.iload_n 2, 1) := by decide +kernel
theorem dX10_readsBy_111 : decode cX10_readsBy 111 = .ok (.invokevirtual 250, 3) := by decide +kernel
theorem dX10_readsBy_114 : decode cX10_readsBy 114 = .ok (.aload_n 0, 1) := by decide +kernel
theorem dX10_readsBy_115 : decode cX10_readsBy 115 = .ok (.invokevirtual 253, 3) := by decide +kernel
theorem dX10_readsBy_118 : decode cX10_readsBy 118 = .ok (.iadd, 1) := by decide +kernel
theorem dX10_readsBy_119 : decode cX10_readsBy 119 = .ok (.ireturn, 1) := by decide +kernel
theorem dX10_readsBy_120 : decode cX10_readsBy 120 = .ok (.aload_n 0, 1) := by decide +kernel
theorem dX10_readsBy_121 : decode cX10_readsBy 121 = .ok (.iload_n 1, 1) := by decide +kernel
theorem dX10_readsBy_122 : decode cX10_readsBy 122 = .ok (.invokestatic 241, 3) := by decide +kernel
theorem dX10_readsBy_125 : decode cX10_readsBy 125 = .ok (.iload_n 2, 1) := by decide +kernel
theorem dX10_readsBy_126 : decode cX10_readsBy 126 = .ok (.invokevirtual 250, 3) := by decide +kernel
theorem dX10_readsBy_129 : decode cX10_readsBy 129 = .ok (.ireturn, 1) := by decide +kernel
def fX10_readsBy_b (zX10_readsBy : Int32 → Int32 → Mm → Option (Int32 × Mm)) (a1 : Int32) (a2 : Int32) (M : Mm) : Option (Int32 × Mm) :=
  if a1 = 0 then (bd (fX10_begins (11 : Int32) M) fun r1 M2 =>
  bd (fX10_kindNow M2) fun r3 M4 =>
  bd (fX10_meltsBy DPV r3 a2 M4) fun r5 M6 =>
  some (r5 * (2 : Int32), M6))
  else if a1 = 1 then (bd (fX10_above a1 M) fun r7 M8 =>
  bd (zX10_readsBy r7 a2 M8) fun r9 M10 =>
  some (r9, M10))
  else if a1 = 2 then (bd (fX10_begins (30 : Int32) M) fun r11 M12 =>
  bd (fX10_above (2 : Int32) M12) fun r13 M14 =>
  bd (zX10_readsBy r13 a2 M14) fun r15 M16 =>
  some ((0 : Int32) - r15, M16))
  else if a1 = 3 then (bd (fX10_above a1 M) fun r17 M18 =>
  bd (zX10_readsBy r17 a2 M18) fun r19 M20 =>
  some (r19, M20))
  else if a1 = 4 then (bd (fX10_begins (50 : Int32) M) fun r21 M22 =>
  bd (fX10_above (4 : Int32) M22) fun r23 M24 =>
  bd (zX10_readsBy r23 (a2 + (1 : Int32)) M24) fun r25 M26 =>
  some (r25, M26))
  else if a1 = 5 then (bd (fX10_above a1 M) fun r27 M28 =>
  bd (zX10_readsBy r27 a2 M28) fun r29 M30 =>
  some (r29, M30))
  else if a1 = 6 then (bd (fX10_begins (71 : Int32) M) fun r31 M32 =>
  bd (fX10_above (6 : Int32) M32) fun r33 M34 =>
  bd (zX10_readsBy r33 a2 M34) fun r35 M36 =>
  bd (fX10_mNow M36) fun r37 M38 =>
  some (r35 + r37, M38))
  else bd (fX10_above a1 M) fun r39 M40 =>
  bd (zX10_readsBy r39 a2 M40) fun r41 M42 =>
  some (r41, M42)
theorem mX10_readsBy_b (l : Launch) (G : Gx) (zX10_readsBy : Int32 → Int32 → Mm → Option (Int32 × Mm)) (lev lev1 : Nat) (hlev : Nat.ble (lev1 + 1) lev = true) (hbase : 48 ≤ lev) (hzX10_readsBy : ∀ (a1 : Int32) (a2 : Int32) (M : Mm), Mt cQi l layM G lev1 yX10_readsBy cX10_readsBy 3 (some .int) [rf G 0, .int a1, .int a2] M (zX10_readsBy a1 a2 M)) (a1 : Int32) (a2 : Int32) (M : Mm) : Mt cQi l layM G lev yX10_readsBy cX10_readsBy 3 (some .int) [rf G 0, .int a1, .int a2] M (fX10_readsBy_b zX10_readsBy a1 a2 M) := by
  refine Mt.of2 (own := RX10) (lv := [(0, rf G 0), (1, .int a1), (2, .int a2)]) rfl (by decide +kernel) rfl rfl ?_
  unfold fX10_readsBy_b
  refine s_iload_n 1 dX10_readsBy_0 rfl rfl ?_
  refine s_table (tgt := 120) dX10_readsBy_1 (by decide) (by decide) (by decide) ?_
  refine lk_cons (k := 0) (tgt := 44) (by decide) (by decide) ?_ ?_
  · refine s_aload_n 0 dX10_readsBy_44 rfl rfl ?_
    refine s_bipush (v := 11) dX10_readsBy_45 cb_11 ?_
    refine s_call_v (s_runV (ci := 10) (rest := []) rfl rfl (mX10_begins l G (11 : Int32) M) ok_X10_begins k_X10_238 (ble_of hbase rfl) rfl rfl rfl dX10_readsBy_47) fun r1 M2 => ?_
    refine s_aload_n 0 dX10_readsBy_50 rfl rfl ?_
    refine s_aload_n 0 dX10_readsBy_51 rfl rfl ?_
    refine s_call_i (s_runV (ci := 10) (rest := [rf G 0]) rfl rfl (mX10_kindNow l G M2) ok_X10_kindNow k_X10_247 (ble_of hbase rfl) rfl rfl rfl dX10_readsBy_52) fun r3 M4 => ?_
    refine s_iload_n 2 dX10_readsBy_55 rfl rfl ?_
    refine s_call_i (s_runV (ci := 10) (rest := []) rfl rfl (mX10_meltsBy l G DPV r3 a2 M4) ok_X10_meltsBy k_X10_244 (ble_of hbase rfl) rfl rfl rfl dX10_readsBy_56) fun r5 M6 => ?_
    refine s_iconst (v := 2) dX10_readsBy_59 ci_2 ?_
    refine s_imul dX10_readsBy_60 ?_
    exact s_iret rfl dX10_readsBy_61
  refine lk_cons (k := 1) (tgt := 120) (by decide) (by decide) ?_ ?_
  · refine s_aload_n 0 dX10_readsBy_120 rfl rfl ?_
    refine s_iload_n 1 dX10_readsBy_121 rfl rfl ?_
    refine s_call_i (s_runS (rest := [rf G 0]) (mX10_above l G a1 M) ok_X10_above k_X10_241 (ble_of hbase rfl) rfl rfl rfl dX10_readsBy_122) fun r7 M8 => ?_
    refine s_iload_n 2 dX10_readsBy_125 rfl rfl ?_
    refine s_call_i (s_runV (ci := 10) (rest := []) rfl rfl (hzX10_readsBy r7 a2 M8) ok_X10_readsBy k_X10_250 hlev rfl rfl rfl dX10_readsBy_126) fun r9 M10 => ?_
    exact s_iret rfl dX10_readsBy_129
  refine lk_cons (k := 2) (tgt := 62) (by decide) (by decide) ?_ ?_
  · refine s_aload_n 0 dX10_readsBy_62 rfl rfl ?_
    refine s_bipush (v := 30) dX10_readsBy_63 cb_30 ?_
    refine s_call_v (s_runV (ci := 10) (rest := []) rfl rfl (mX10_begins l G (30 : Int32) M) ok_X10_begins k_X10_238 (ble_of hbase rfl) rfl rfl rfl dX10_readsBy_65) fun r11 M12 => ?_
    refine s_iconst (v := 0) dX10_readsBy_68 ci_0 ?_
    refine s_aload_n 0 dX10_readsBy_69 rfl rfl ?_
    refine s_iconst (v := 2) dX10_readsBy_70 ci_2 ?_
    refine s_call_i (s_runS (rest := [rf G 0, .int (0 : Int32)]) (mX10_above l G (2 : Int32) M12) ok_X10_above k_X10_241 (ble_of hbase rfl) rfl rfl rfl dX10_readsBy_71) fun r13 M14 => ?_
    refine s_iload_n 2 dX10_readsBy_74 rfl rfl ?_
    refine s_call_i (s_runV (ci := 10) (rest := [.int (0 : Int32)]) rfl rfl (hzX10_readsBy r13 a2 M14) ok_X10_readsBy k_X10_250 hlev rfl rfl rfl dX10_readsBy_75) fun r15 M16 => ?_
    refine s_isub dX10_readsBy_78 ?_
    exact s_iret rfl dX10_readsBy_79
  refine lk_cons (k := 3) (tgt := 120) (by decide) (by decide) ?_ ?_
  · refine s_aload_n 0 dX10_readsBy_120 rfl rfl ?_
    refine s_iload_n 1 dX10_readsBy_121 rfl rfl ?_
    refine s_call_i (s_runS (rest := [rf G 0]) (mX10_above l G a1 M) ok_X10_above k_X10_241 (ble_of hbase rfl) rfl rfl rfl dX10_readsBy_122) fun r17 M18 => ?_
    refine s_iload_n 2 dX10_readsBy_125 rfl rfl ?_
    refine s_call_i (s_runV (ci := 10) (rest := []) rfl rfl (hzX10_readsBy r17 a2 M18) ok_X10_readsBy k_X10_250 hlev rfl rfl rfl dX10_readsBy_126) fun r19 M20 => ?_
    exact s_iret rfl dX10_readsBy_129
  refine lk_cons (k := 4) (tgt := 80) (by decide) (by decide) ?_ ?_
  · refine s_aload_n 0 dX10_readsBy_80 rfl rfl ?_
    refine s_bipush (v := 50) dX10_readsBy_81 cb_50 ?_
    refine s_call_v (s_runV (ci := 10) (rest := []) rfl rfl (mX10_begins l G (50 : Int32) M) ok_X10_begins k_X10_238 (ble_of hbase rfl) rfl rfl rfl dX10_readsBy_83) fun r21 M22 => ?_
    refine s_aload_n 0 dX10_readsBy_86 rfl rfl ?_
    refine s_iconst (v := 4) dX10_readsBy_87 ci_4 ?_
    refine s_call_i (s_runS (rest := [rf G 0]) (mX10_above l G (4 : Int32) M22) ok_X10_above k_X10_241 (ble_of hbase rfl) rfl rfl rfl dX10_readsBy_88) fun r23 M24 => ?_
    refine s_iload_n 2 dX10_readsBy_91 rfl rfl ?_
    refine s_iconst (v := 1) dX10_readsBy_92 ci_1 ?_
    refine s_iadd dX10_readsBy_93 ?_
    refine s_call_i (s_runV (ci := 10) (rest := []) rfl rfl (hzX10_readsBy r23 (a2 + (1 : Int32)) M24) ok_X10_readsBy k_X10_250 hlev rfl rfl rfl dX10_readsBy_94) fun r25 M26 => ?_
    exact s_iret rfl dX10_readsBy_97
  refine lk_cons (k := 5) (tgt := 120) (by decide) (by decide) ?_ ?_
  · refine s_aload_n 0 dX10_readsBy_120 rfl rfl ?_
    refine s_iload_n 1 dX10_readsBy_121 rfl rfl ?_
    refine s_call_i (s_runS (rest := [rf G 0]) (mX10_above l G a1 M) ok_X10_above k_X10_241 (ble_of hbase rfl) rfl rfl rfl dX10_readsBy_122) fun r27 M28 => ?_
    refine s_iload_n 2 dX10_readsBy_125 rfl rfl ?_
    refine s_call_i (s_runV (ci := 10) (rest := []) rfl rfl (hzX10_readsBy r27 a2 M28) ok_X10_readsBy k_X10_250 hlev rfl rfl rfl dX10_readsBy_126) fun r29 M30 => ?_
    exact s_iret rfl dX10_readsBy_129
  refine lk_cons (k := 6) (tgt := 98) (by decide) (by decide) ?_ ?_
  · refine s_aload_n 0 dX10_readsBy_98 rfl rfl ?_
    refine s_bipush (v := 71) dX10_readsBy_99 cb_71 ?_
    refine s_call_v (s_runV (ci := 10) (rest := []) rfl rfl (mX10_begins l G (71 : Int32) M) ok_X10_begins k_X10_238 (ble_of hbase rfl) rfl rfl rfl dX10_readsBy_101) fun r31 M32 => ?_
    refine s_aload_n 0 dX10_readsBy_104 rfl rfl ?_
    refine s_bipush (v := 6) dX10_readsBy_105 cb_6 ?_
    refine s_call_i (s_runS (rest := [rf G 0]) (mX10_above l G (6 : Int32) M32) ok_X10_above k_X10_241 (ble_of hbase rfl) rfl rfl rfl dX10_readsBy_107) fun r33 M34 => ?_
    refine s_iload_n 2 dX10_readsBy_110 rfl rfl ?_
    refine s_call_i (s_runV (ci := 10) (rest := []) rfl rfl (hzX10_readsBy r33 a2 M34) ok_X10_readsBy k_X10_250 hlev rfl rfl rfl dX10_readsBy_111) fun r35 M36 => ?_
    refine s_aload_n 0 dX10_readsBy_114 rfl rfl ?_
    refine s_call_i (s_runV (ci := 10) (rest := [.int r35]) rfl rfl (mX10_mNow l G M36) ok_X10_mNow k_X10_253 (ble_of hbase rfl) rfl rfl rfl dX10_readsBy_115) fun r37 M38 => ?_
    refine s_iadd dX10_readsBy_118 ?_
    exact s_iret rfl dX10_readsBy_119
  refine lk_nil (tgt := 120) (by decide) ?_
  refine s_aload_n 0 dX10_readsBy_120 rfl rfl ?_
  refine s_iload_n 1 dX10_readsBy_121 rfl rfl ?_
  refine s_call_i (s_runS (rest := [rf G 0]) (mX10_above l G a1 M) ok_X10_above k_X10_241 (ble_of hbase rfl) rfl rfl rfl dX10_readsBy_122) fun r39 M40 => ?_
  refine s_iload_n 2 dX10_readsBy_125 rfl rfl ?_
  refine s_call_i (s_runV (ci := 10) (rest := []) rfl rfl (hzX10_readsBy r39 a2 M40) ok_X10_readsBy k_X10_250 hlev rfl rfl rfl dX10_readsBy_126) fun r41 M42 => ?_
  exact s_iret rfl dX10_readsBy_129
def grX10_readsBy : Nat → (Int32 → Int32 → Mm → Option (Int32 × Mm))
  | 0 => (fun _ _ _ => none)
  | d + 1 => (fX10_readsBy_b ((grX10_readsBy d)))
def fX10_readsBy (d : Nat) : Int32 → Int32 → Mm → Option (Int32 × Mm) := (grX10_readsBy d)
theorem mgX10_readsBy (l : Launch) (G : Gx) : ∀ d : Nat, (∀ (a1 : Int32) (a2 : Int32) (M : Mm), Mt cQi l layM G (48 + d) yX10_readsBy cX10_readsBy 3 (some .int) [rf G 0, .int a1, .int a2] M (fX10_readsBy d a1 a2 M))
  | 0 => fun _ _ _ => Mt.none
  | d + 1 => fun a1 a2 M => mX10_readsBy_b l G (fX10_readsBy d) (48 + (d + 1)) (48 + d) (Nat.ble_eq.mpr (Nat.le_refl _)) (Nat.le_add_right _ _) ((mgX10_readsBy l G d)) a1 a2 M
theorem mX10_readsBy (l : Launch) (G : Gx) (d : Nat) (a1 : Int32) (a2 : Int32) (M : Mm) : Mt cQi l layM G (48 + d) yX10_readsBy cX10_readsBy 3 (some .int) [rf G 0, .int a1, .int a2] M (fX10_readsBy d a1 a2 M) := (mgX10_readsBy l G d) a1 a2 M
theorem dX10_dripsBy_0 : decode cX10_dripsBy 0 = .ok (.iload_n 1, 1) := by decide +kernel
theorem dX10_dripsBy_1 : decode cX10_dripsBy 1 = .ok (.lookupswitch 95 #[(0, 35), (3, 56), (5, 77)], 35) := by decide +kernel
theorem dX10_dripsBy_36 : decode cX10_dripsBy 36 = .ok (.aload_n 0, 1) := by decide +kernel
theorem dX10_dripsBy_37 : decode cX10_dripsBy 37 = .ok (.bipush 12, 2) := by decide +kernel
theorem dX10_dripsBy_39 : decode cX10_dripsBy 39 = .ok (.invokevirtual 238, 3) := by decide +kernel
theorem dX10_dripsBy_42 : decode cX10_dripsBy 42 = .ok (.aload_n 0, 1) := by decide +kernel
theorem dX10_dripsBy_43 : decode cX10_dripsBy 43 = .ok (.aload_n 0, 1) := by decide +kernel
theorem dX10_dripsBy_44 : decode cX10_dripsBy 44 = .ok (.invokevirtual 247, 3) := by decide +kernel
theorem dX10_dripsBy_47 : decode cX10_dripsBy 47 = .ok (.iload_n 2, 1) := by decide +kernel
theorem dX10_dripsBy_48 : decode cX10_dripsBy 48 = .ok (.invokevirtual 250, 3) := by decide +kernel
theorem dX10_dripsBy_51 : decode cX10_dripsBy 51 = .ok (.aload_n 0, 1) := by decide +kernel
theorem dX10_dripsBy_52 : decode cX10_dripsBy 52 = .ok (.invokevirtual 253, 3) := by decide +kernel
theorem dX10_dripsBy_55 : decode cX10_dripsBy 55 = .ok (.isub, 1) := by decide +kernel
theorem dX10_dripsBy_56 : decode cX10_dripsBy 56 = .ok (.ireturn, 1) := by decide +kernel
theorem dX10_dripsBy_57 : decode cX10_dripsBy 57 = .ok (.aload_n 0, 1) := by decide +kernel
theorem dX10_dripsBy_58 : decode cX10_dripsBy 58 = .ok (.bipush 41, 2) := by decide +kernel
theorem dX10_dripsBy_60 : decode cX10_dripsBy 60 = .ok (.invokevirtual 238, 3) := by decide +kernel
theorem dX10_dripsBy_63 : decode cX10_dripsBy 63 = .ok (.aload_n 0, 1) := by decide +kernel
theorem dX10_dripsBy_64 : decode cX10_dripsBy 64 = .ok (.iconst 3, 1) := by decide +kernel
theorem dX10_dripsBy_65 : decode cX10_dripsBy 65 = .ok (.invokestatic 241, 3) := by decide +kernel
theorem dX10_dripsBy_68 : decode cX10_dripsBy 68 = .ok (.iload_n 2, 1) := by decide +kernel
theorem dX10_dripsBy_69 : decode cX10_dripsBy 69 = .ok (.invokevirtual 256, 3) := by decide +kernel
theorem dX10_dripsBy_72 : decode cX10_dripsBy 72 = .ok (.aload_n 0, 1) := by decide +kernel
theorem dX10_dripsBy_73 : decode cX10_dripsBy 73 = .ok (.getfield 235, 3) := by decide +kernel
theorem dX10_dripsBy_76 : decode cX10_dripsBy 76 = .ok (.ixor, 1) := by decide +kernel
theorem dX10_dripsBy_77 : decode cX10_dripsBy 77 = .ok (.ireturn, 1) := by decide +kernel
theorem dX10_dripsBy_78 : decode cX10_dripsBy 78 = .ok (.aload_n 0, 1) := by decide +kernel
theorem dX10_dripsBy_79 : decode cX10_dripsBy 79 = .ok (.bipush 60, 2) := by decide +kernel
theorem dX10_dripsBy_81 : decode cX10_dripsBy 81 = .ok (.invokevirtual 238, 3) := by decide +kernel
theorem dX10_dripsBy_84 : decode cX10_dripsBy 84 = .ok (.aload_n 0, 1) := by decide +kernel
theorem dX10_dripsBy_85 : decode cX10_dripsBy 85 = .ok (.iconst 5, 1) := by decide +kernel
theorem dX10_dripsBy_86 : decode cX10_dripsBy 86 = .ok (.invokestatic 241, 3) := by decide +kernel
theorem dX10_dripsBy_89 : decode cX10_dripsBy 89 = .ok (.iload_n 2, 1) := by decide +kernel
theorem dX10_dripsBy_90 : decode cX10_dripsBy 90 = .ok (.iconst 2, 1) := by decide +kernel
theorem dX10_dripsBy_91 : decode cX10_dripsBy 91 = .ok (.idiv, 1) := by decide +kernel
theorem dX10_dripsBy_92 : decode cX10_dripsBy 92 = .ok (.invokevirtual 256, 3) := by decide +kernel
theorem dX10_dripsBy_95 : decode cX10_dripsBy 95 = .ok (.ireturn, 1) := by decide +kernel
theorem dX10_dripsBy_96 : decode cX10_dripsBy 96 = .ok (.aload_n 0, 1) := by decide +kernel
theorem dX10_dripsBy_97 : decode cX10_dripsBy 97 = .ok (.iload_n 1, 1) := by decide +kernel
theorem dX10_dripsBy_98 : decode cX10_dripsBy 98 = .ok (.invokestatic 241, 3) := by decide +kernel
theorem dX10_dripsBy_101 : decode cX10_dripsBy 101 = .ok (.iload_n 2, 1) := by decide +kernel
theorem dX10_dripsBy_102 : decode cX10_dripsBy 102 = .ok (.invokevirtual 256, 3) := by decide +kernel
theorem dX10_dripsBy_105 : decode cX10_dripsBy 105 = .ok (.ireturn, 1) := by decide +kernel
def fX10_dripsBy_b (zX10_dripsBy : Int32 → Int32 → Mm → Option (Int32 × Mm)) (a1 : Int32) (a2 : Int32) (M : Mm) : Option (Int32 × Mm) :=
  if a1 = 0 then (bd (fX10_begins (12 : Int32) M) fun r1 M2 =>
  bd (fX10_kindNow M2) fun r3 M4 =>
  bd (fX10_readsBy DPV r3 a2 M4) fun r5 M6 =>
  bd (fX10_mNow M6) fun r7 M8 =>
  some (r5 - r7, M8))
  else if a1 = 3 then (bd (fX10_begins (41 : Int32) M) fun r9 M10 =>
  bd (fX10_above (3 : Int32) M10) fun r11 M12 =>
  bd (zX10_dripsBy r11 a2 M12) fun r13 M14 =>
  some (r13 ^^^ (M14 0 20), M14))
  else if a1 = 5 then (bd (fX10_begins (60 : Int32) M) fun r15 M16 =>
  bd (fX10_above (5 : Int32) M16) fun r17 M18 =>
  bd (zX10_dripsBy r17 (a2 / (2 : Int32)) M18) fun r19 M20 =>
  some (r19, M20))
  else bd (fX10_above a1 M) fun r21 M22 =>
  bd (zX10_dripsBy r21 a2 M22) fun r23 M24 =>
  some (r23, M24)
theorem mX10_dripsBy_b (l : Launch) (G : Gx) (zX10_dripsBy : Int32 → Int32 → Mm → Option (Int32 × Mm)) (lev lev1 : Nat) (hlev : Nat.ble (lev1 + 1) lev = true) (hbase : 94 ≤ lev) (hzX10_dripsBy : ∀ (a1 : Int32) (a2 : Int32) (M : Mm), Mt cQi l layM G lev1 yX10_dripsBy cX10_dripsBy 3 (some .int) [rf G 0, .int a1, .int a2] M (zX10_dripsBy a1 a2 M)) (a1 : Int32) (a2 : Int32) (M : Mm) : Mt cQi l layM G lev yX10_dripsBy cX10_dripsBy 3 (some .int) [rf G 0, .int a1, .int a2] M (fX10_dripsBy_b zX10_dripsBy a1 a2 M) := by
  refine Mt.of2 (own := RX10) (lv := [(0, rf G 0), (1, .int a1), (2, .int a2)]) rfl (by decide +kernel) rfl rfl ?_
  unfold fX10_dripsBy_b
  refine s_iload_n 1 dX10_dripsBy_0 rfl rfl ?_
  refine s_lookup (tgt := 96) dX10_dripsBy_1 (by decide) (by decide) (by decide) ?_
  refine lk_cons (k := 0) (tgt := 36) (by decide) (by decide) ?_ ?_
  · refine s_aload_n 0 dX10_dripsBy_36 rfl rfl ?_
    refine s_bipush (v := 12) dX10_dripsBy_37 cb_12 ?_
    refine s_call_v (s_runV (ci := 10) (rest := []) rfl rfl (mX10_begins l G (12 : Int32) M) ok_X10_begins k_X10_238 (ble_of hbase rfl) rfl rfl rfl dX10_dripsBy_39) fun r1 M2 => ?_
    refine s_aload_n 0 dX10_dripsBy_42 rfl rfl ?_
    refine s_aload_n 0 dX10_dripsBy_43 rfl rfl ?_
    refine s_call_i (s_runV (ci := 10) (rest := [rf G 0]) rfl rfl (mX10_kindNow l G M2) ok_X10_kindNow k_X10_247 (ble_of hbase rfl) rfl rfl rfl dX10_dripsBy_44) fun r3 M4 => ?_
    refine s_iload_n 2 dX10_dripsBy_47 rfl rfl ?_
    refine s_call_i (s_runV (ci := 10) (rest := []) rfl rfl (mX10_readsBy l G DPV r3 a2 M4) ok_X10_readsBy k_X10_250 (ble_of hbase rfl) rfl rfl rfl dX10_dripsBy_48) fun r5 M6 => ?_
    refine s_aload_n 0 dX10_dripsBy_51 rfl rfl ?_
    refine s_call_i (s_runV (ci := 10) (rest := [.int r5]) rfl rfl (mX10_mNow l G M6) ok_X10_mNow k_X10_253 (ble_of hbase rfl) rfl rfl rfl dX10_dripsBy_52) fun r7 M8 => ?_
    refine s_isub dX10_dripsBy_55 ?_
    exact s_iret rfl dX10_dripsBy_56
  refine lk_cons (k := 3) (tgt := 57) (by decide) (by decide) ?_ ?_
  · refine s_aload_n 0 dX10_dripsBy_57 rfl rfl ?_
    refine s_bipush (v := 41) dX10_dripsBy_58 cb_41 ?_
    refine s_call_v (s_runV (ci := 10) (rest := []) rfl rfl (mX10_begins l G (41 : Int32) M) ok_X10_begins k_X10_238 (ble_of hbase rfl) rfl rfl rfl dX10_dripsBy_60) fun r9 M10 => ?_
    refine s_aload_n 0 dX10_dripsBy_63 rfl rfl ?_
    refine s_iconst (v := 3) dX10_dripsBy_64 ci_3 ?_
    refine s_call_i (s_runS (rest := [rf G 0]) (mX10_above l G (3 : Int32) M10) ok_X10_above k_X10_241 (ble_of hbase rfl) rfl rfl rfl dX10_dripsBy_65) fun r11 M12 => ?_
    refine s_iload_n 2 dX10_dripsBy_68 rfl rfl ?_
    refine s_call_i (s_runV (ci := 10) (rest := []) rfl rfl (hzX10_dripsBy r11 a2 M12) ok_X10_dripsBy k_X10_256 hlev rfl rfl rfl dX10_dripsBy_69) fun r13 M14 => ?_
    refine s_aload_n 0 dX10_dripsBy_72 rfl rfl ?_
    refine g_X10_235 rfl dX10_dripsBy_73 ?_
    refine s_ixor dX10_dripsBy_76 ?_
    exact s_iret rfl dX10_dripsBy_77
  refine lk_cons (k := 5) (tgt := 78) (by decide) (by decide) ?_ ?_
  · refine s_aload_n 0 dX10_dripsBy_78 rfl rfl ?_
    refine s_bipush (v := 60) dX10_dripsBy_79 cb_60 ?_
    refine s_call_v (s_runV (ci := 10) (rest := []) rfl rfl (mX10_begins l G (60 : Int32) M) ok_X10_begins k_X10_238 (ble_of hbase rfl) rfl rfl rfl dX10_dripsBy_81) fun r15 M16 => ?_
    refine s_aload_n 0 dX10_dripsBy_84 rfl rfl ?_
    refine s_iconst (v := 5) dX10_dripsBy_85 ci_5 ?_
    refine s_call_i (s_runS (rest := [rf G 0]) (mX10_above l G (5 : Int32) M16) ok_X10_above k_X10_241 (ble_of hbase rfl) rfl rfl rfl dX10_dripsBy_86) fun r17 M18 => ?_
    refine s_iload_n 2 dX10_dripsBy_89 rfl rfl ?_
    refine s_iconst (v := 2) dX10_dripsBy_90 ci_2 ?_
    refine s_idiv dX10_dripsBy_91 (by decide) ?_
    refine s_call_i (s_runV (ci := 10) (rest := []) rfl rfl (hzX10_dripsBy r17 (a2 / (2 : Int32)) M18) ok_X10_dripsBy k_X10_256 hlev rfl rfl rfl dX10_dripsBy_92) fun r19 M20 => ?_
    exact s_iret rfl dX10_dripsBy_95
  refine lk_nil (tgt := 96) (by decide) ?_
  refine s_aload_n 0 dX10_dripsBy_96 rfl rfl ?_
  refine s_iload_n 1 dX10_dripsBy_97 rfl rfl ?_
  refine s_call_i (s_runS (rest := [rf G 0]) (mX10_above l G a1 M) ok_X10_above k_X10_241 (ble_of hbase rfl) rfl rfl rfl dX10_dripsBy_98) fun r21 M22 => ?_
  refine s_iload_n 2 dX10_dripsBy_101 rfl rfl ?_
  refine s_call_i (s_runV (ci := 10) (rest := []) rfl rfl (hzX10_dripsBy r21 a2 M22) ok_X10_dripsBy k_X10_256 hlev rfl rfl rfl dX10_dripsBy_102) fun r23 M24 => ?_
  exact s_iret rfl dX10_dripsBy_105
def grX10_dripsBy : Nat → (Int32 → Int32 → Mm → Option (Int32 × Mm))
  | 0 => (fun _ _ _ => none)
  | d + 1 => (fX10_dripsBy_b ((grX10_dripsBy d)))
def fX10_dripsBy (d : Nat) : Int32 → Int32 → Mm → Option (Int32 × Mm) := (grX10_dripsBy d)
theorem mgX10_dripsBy (l : Launch) (G : Gx) : ∀ d : Nat, (∀ (a1 : Int32) (a2 : Int32) (M : Mm), Mt cQi l layM G (94 + d) yX10_dripsBy cX10_dripsBy 3 (some .int) [rf G 0, .int a1, .int a2] M (fX10_dripsBy d a1 a2 M))
  | 0 => fun _ _ _ => Mt.none
  | d + 1 => fun a1 a2 M => mX10_dripsBy_b l G (fX10_dripsBy d) (94 + (d + 1)) (94 + d) (Nat.ble_eq.mpr (Nat.le_refl _)) (Nat.le_add_right _ _) ((mgX10_dripsBy l G d)) a1 a2 M
theorem mX10_dripsBy (l : Launch) (G : Gx) (d : Nat) (a1 : Int32) (a2 : Int32) (M : Mm) : Mt cQi l layM G (94 + d) yX10_dripsBy cX10_dripsBy 3 (some .int) [rf G 0, .int a1, .int a2] M (fX10_dripsBy d a1 a2 M) := (mgX10_dripsBy l G d) a1 a2 M
theorem dX10_castsBy_0 : decode cX10_castsBy 0 = .ok (.iload_n 1, 1) := by decide +kernel
theorem dX10_castsBy_1 : decode cX10_castsBy 1 = .ok (.lookupswitch 119 #[(0, 27), (1, 78)], 27) := by decide +kernel
theorem dX10_castsBy_28 : decode cX10_castsBy 28 = .ok (.aload_n 0, 1) := by decide +kernel
theorem dX10_castsBy_29 : decode cX10_castsBy 29 = .ok (.bipush 13, 2) := by decide +kernel
theorem dX10_castsBy_31 : decode cX10_castsBy 31 = .ok (.invokevirtual 238, 3) := by decide +kernel
theorem dX10_castsBy_34 : decode cX10_castsBy 34 = .ok (.aload_n 0, 1) := by decide +kernel
theorem dX10_castsBy_35 : decode cX10_castsBy 35 = .ok (.invokevirtual 253, 3) := by decide +kernel
theorem dX10_castsBy_38 : decode cX10_castsBy 38 = .ok (.aload_n 0, 1) := by decide +kernel
theorem dX10_castsBy_39 : decode cX10_castsBy 39 = .ok (.getfield 235, 3) := by decide +kernel
theorem dX10_castsBy_42 : decode cX10_castsBy 42 = .ok (.isub, 1) := by decide +kernel
theorem dX10_castsBy_43 : decode cX10_castsBy 43 = .ok (.istore_n 3, 1) := by decide +kernel
theorem dX10_castsBy_44 : decode cX10_castsBy 44 = .ok (.aload_n 0, 1) := by decide +kernel
theorem dX10_castsBy_45 : decode cX10_castsBy 45 = .ok (.iload_n 3, 1) := by decide +kernel
theorem dX10_castsBy_46 : decode cX10_castsBy 46 = .ok (.ifCond .ne 7, 3) := by decide +kernel
theorem dX10_castsBy_49 : decode cX10_castsBy 49 = .ok (.iconst 1, 1) := by decide +kernel
theorem dX10_castsBy_50 : decode cX10_castsBy 50 = .ok (.goto 4, 3) := by decide +kernel
theorem dX10_castsBy_53 : decode cX10_castsBy 53 = .ok (.iconst 0, 1) := by decide +kernel
theorem dX10_castsBy_54 : decode cX10_castsBy 54 = .ok (.putfield 259, 3) := by decide +kernel
theorem dX10_castsBy_57 : decode cX10_castsBy 57 = .ok (.iload_n 3, 1) := by decide +kernel
theorem dX10_castsBy_58 : decode cX10_castsBy 58 = .ok (.ifCond .ne 7, 3) := by decide +kernel
theorem dX10_castsBy_61 : decode cX10_castsBy 61 = .ok (.iconst 0, 1) := by decide +kernel
theorem dX10_castsBy_62 : decode cX10_castsBy 62 = .ok (.goto 16, 3) := by decide +kernel
theorem dX10_castsBy_65 : decode cX10_castsBy 65 = .ok (.iload_n 3, 1) := by decide +kernel
theorem dX10_castsBy_66 : decode cX10_castsBy 66 = .ok (.iconst (-1), 1) := by decide +kernel
theorem dX10_castsBy_67 : decode cX10_castsBy 67 = .ok (.if_icmp .ne 8, 3) := by decide +kernel
theorem dX10_castsBy_70 : decode cX10_castsBy 70 = .ok (.iload_n 2, 1) := by decide +kernel
theorem dX10_castsBy_71 : decode cX10_castsBy 71 = .ok (.ineg, 1) := by decide +kernel
theorem dX10_castsBy_72 : decode cX10_castsBy 72 = .ok (.goto 6, 3) := by decide +kernel
theorem dX10_castsBy_75 : decode cX10_castsBy 75 = .ok (.iload_n 2, 1) := by decide +kernel
theorem dX10_castsBy_76 : decode cX10_castsBy 76 = .ok (.iload_n 3, 1) := by decide +kernel
theorem dX10_castsBy_77 : decode cX10_castsBy 77 = .ok (.idiv, 1) := by decide +kernel
theorem dX10_castsBy_78 : decode cX10_castsBy 78 = .ok (.ireturn, 1) := by decide +kernel
theorem dX10_castsBy_79 : decode cX10_castsBy 79 = .ok (.aload_n 0, 1) := by decide +kernel
theorem dX10_castsBy_80 : decode cX10_castsBy 80 = .ok (.bipush 21, 2) := by decide +kernel
theorem dX10_castsBy_82 : decode cX10_castsBy 82 = .ok (.invokevirtual 238, 3) := by decide +kernel
theorem dX10_castsBy_85 : decode cX10_castsBy 85 = .ok (.aload_n 0, 1) := by decide +kernel
theorem dX10_castsBy_86 : decode cX10_castsBy 86 = .ok (.iconst 1, 1) := by decide +kernel
theorem dX10_castsBy_87 : decode cX10_castsBy 87 = .ok (.invokestatic 241, 3) := by decide +kernel
theorem dX10_castsBy_90 : decode cX10_castsBy 90 = .ok (.iload_n 2, 1) := by decide +kernel
theorem dX10_castsBy_91 : decode cX10_castsBy 91 = .ok (.invokevirtual 263, 3) := by decide +kernel
theorem dX10_castsBy_94 : decode cX10_castsBy 94 = .ok (.istore 4, 2) := by decide +kernel
theorem dX10_castsBy_96 : decode cX10_castsBy 96 = .ok (.aload_n 0, 1) := by decide +kernel
theorem dX10_castsBy_97 : decode cX10_castsBy 97 = .ok (.getfield 259, 3) := by decide +kernel
theorem dX10_castsBy_100 : decode cX10_castsBy 100 = .ok (.ifCond .eq 7, 3) := by decide +kernel
theorem dX10_castsBy_103 : decode cX10_castsBy 103 = .ok (.iconst 0, 1) := by decide +kernel
theorem dX10_castsBy_104 : decode cX10_castsBy 104 = .ok (.goto 15, 3) := by decide +kernel
theorem dX10_castsBy_107 : decode cX10_castsBy 107 = .ok (.iload 4, 2) := by decide +kernel
theorem dX10_castsBy_109 : decode cX10_castsBy 109 = .ok (.aload_n 0, 1) := by decide +kernel
theorem dX10_castsBy_110 : decode cX10_castsBy 110 = .ok (.aload_n 0, 1) := by decide +kernel
theorem dX10_castsBy_111 : decode cX10_castsBy 111 = .ok (.invokevirtual 247, 3) := by decide +kernel
theorem dX10_castsBy_114 : decode cX10_castsBy 114 = .ok (.iconst 1, 1) := by decide +kernel
theorem dX10_castsBy_115 : decode cX10_castsBy 115 = .ok (.invokevirtual 250, 3) := by decide +kernel
theorem dX10_castsBy_118 : decode cX10_castsBy 118 = .ok (.iadd, 1) := by decide +kernel
theorem dX10_castsBy_119 : decode cX10_castsBy 119 = .ok (.ireturn, 1) := by decide +kernel
theorem dX10_castsBy_120 : decode cX10_castsBy 120 = .ok (.aload_n 0, 1) := by decide +kernel
theorem dX10_castsBy_121 : decode cX10_castsBy 121 = .ok (.iload_n 1, 1) := by decide +kernel
theorem dX10_castsBy_122 : decode cX10_castsBy 122 = .ok (.invokestatic 241, 3) := by decide +kernel
theorem dX10_castsBy_125 : decode cX10_castsBy 125 = .ok (.iload_n 2, 1) := by decide +kernel
theorem dX10_castsBy_126 : decode cX10_castsBy 126 = .ok (.invokevirtual 263, 3) := by decide +kernel
theorem dX10_castsBy_129 : decode cX10_castsBy 129 = .ok (.ireturn, 1) := by decide +kernel
def fX10_castsBy_B78 (zX10_castsBy : Int32 → Int32 → Mm → Option (Int32 × Mm)) (w0 : Int32) (M : Mm) : Option (Int32 × Mm) :=
  some (w0, M)
theorem tX10_castsBy_B78 (l : Launch) (G : Gx) (zX10_castsBy : Int32 → Int32 → Mm → Option (Int32 × Mm)) (lev lev1 : Nat) (hlev : Nat.ble (lev1 + 1) lev = true) (hbase : 94 ≤ lev) (hzX10_castsBy : ∀ (a1 : Int32) (a2 : Int32) (M : Mm), Mt cQi l layM G lev1 yX10_castsBy cX10_castsBy 5 (some .int) [rf G 0, .int a1, .int a2] M (zX10_castsBy a1 a2 M)) (w0 : Int32) (M : Mm) : Sim cQi l layM G lev cX10_castsBy RX10 5 (some .int) 78 [] [.int w0] M (fX10_castsBy_B78 zX10_castsBy w0 M) := by
  unfold fX10_castsBy_B78
  exact s_iret rfl dX10_castsBy_78
def fX10_castsBy_B54 (zX10_castsBy : Int32 → Int32 → Mm → Option (Int32 × Mm)) (v3 : Int32) (v2 : Int32) (w0 : Int32) (M : Mm) : Option (Int32 × Mm) :=
  gd (isb w0) <|
  lt (wr M 0 21 w0) fun M7 =>
  if v3 = 0 then (fX10_castsBy_B78 zX10_castsBy (0 : Int32) M7)
  else if v3 = (-1 : Int32) then (fX10_castsBy_B78 zX10_castsBy (-v2) M7)
  else gd (nz v3) <|
  fX10_castsBy_B78 zX10_castsBy (v2 / v3) M7
theorem tX10_castsBy_B54 (l : Launch) (G : Gx) (zX10_castsBy : Int32 → Int32 → Mm → Option (Int32 × Mm)) (lev lev1 : Nat) (hlev : Nat.ble (lev1 + 1) lev = true) (hbase : 94 ≤ lev) (hzX10_castsBy : ∀ (a1 : Int32) (a2 : Int32) (M : Mm), Mt cQi l layM G lev1 yX10_castsBy cX10_castsBy 5 (some .int) [rf G 0, .int a1, .int a2] M (zX10_castsBy a1 a2 M)) (v3 : Int32) (v2 : Int32) (w0 : Int32) (M : Mm) : Sim cQi l layM G lev cX10_castsBy RX10 5 (some .int) 54 [(3, .int v3), (2, .int v2)] [.int w0, rf G 0] M (fX10_castsBy_B54 zX10_castsBy v3 v2 w0 M) := by
  unfold fX10_castsBy_B54
  refine s_gd fun h6 => ?_
  refine p_X10_259 rfl (isb_nf h6) dX10_castsBy_54 ?_
  refine s_letM fun M7 => ?_
  refine s_iload_n 0 dX10_castsBy_57 rfl rfl ?_
  refine s_ifne (tgt := 65) dX10_castsBy_58 (by decide) ?_ ?_
  · refine s_iload_n 0 dX10_castsBy_65 rfl rfl ?_
    refine s_iconst (v := -1) dX10_castsBy_66 ci_m1 ?_
    refine s_icmpne (tgt := 75) dX10_castsBy_67 (by decide) ?_ ?_
    · refine s_iload_n 1 dX10_castsBy_75 rfl rfl ?_
      refine s_iload_n 0 dX10_castsBy_76 rfl rfl ?_
      refine s_gd fun h8 => ?_
      refine s_idiv dX10_castsBy_77 h8 ?_
      exact s_sub [] rfl (tX10_castsBy_B78 l G zX10_castsBy lev lev1 hlev hbase hzX10_castsBy (v2 / v3) M7)
    · refine s_iload_n 1 dX10_castsBy_70 rfl rfl ?_
      refine s_ineg dX10_castsBy_71 ?_
      refine s_goto (tgt := 78) dX10_castsBy_72 (by decide) ?_
      exact s_sub [] rfl (tX10_castsBy_B78 l G zX10_castsBy lev lev1 hlev hbase hzX10_castsBy (-v2) M7)
  · refine s_iconst (v := 0) dX10_castsBy_61 ci_0 ?_
    refine s_goto (tgt := 78) dX10_castsBy_62 (by decide) ?_
    exact s_sub [] rfl (tX10_castsBy_B78 l G zX10_castsBy lev lev1 hlev hbase hzX10_castsBy (0 : Int32) M7)
def fX10_castsBy_B119 (zX10_castsBy : Int32 → Int32 → Mm → Option (Int32 × Mm)) (w0 : Int32) (M : Mm) : Option (Int32 × Mm) :=
  some (w0, M)
theorem tX10_castsBy_B119 (l : Launch) (G : Gx) (zX10_castsBy : Int32 → Int32 → Mm → Option (Int32 × Mm)) (lev lev1 : Nat) (hlev : Nat.ble (lev1 + 1) lev = true) (hbase : 94 ≤ lev) (hzX10_castsBy : ∀ (a1 : Int32) (a2 : Int32) (M : Mm), Mt cQi l layM G lev1 yX10_castsBy cX10_castsBy 5 (some .int) [rf G 0, .int a1, .int a2] M (zX10_castsBy a1 a2 M)) (w0 : Int32) (M : Mm) : Sim cQi l layM G lev cX10_castsBy RX10 5 (some .int) 119 [] [.int w0] M (fX10_castsBy_B119 zX10_castsBy w0 M) := by
  unfold fX10_castsBy_B119
  exact s_iret rfl dX10_castsBy_119
def fX10_castsBy_b (zX10_castsBy : Int32 → Int32 → Mm → Option (Int32 × Mm)) (a1 : Int32) (a2 : Int32) (M : Mm) : Option (Int32 × Mm) :=
  if a1 = 0 then (bd (fX10_begins (13 : Int32) M) fun r1 M2 =>
  bd (fX10_mNow M2) fun r3 M4 =>
  lt (r3 - (M4 0 20)) fun x5 =>
  if x5 = 0 then (fX10_castsBy_B54 zX10_castsBy x5 a2 (1 : Int32) M4)
  else fX10_castsBy_B54 zX10_castsBy x5 a2 (0 : Int32) M4)
  else if a1 = 1 then (bd (fX10_begins (21 : Int32) M) fun r9 M10 =>
  bd (fX10_above (1 : Int32) M10) fun r11 M12 =>
  bd (zX10_castsBy r11 a2 M12) fun r13 M14 =>
  if (M14 0 21) = 0 then (bd (fX10_kindNow M14) fun r15 M16 =>
  bd (fX10_readsBy DPV r15 (1 : Int32) M16) fun r17 M18 =>
  fX10_castsBy_B119 zX10_castsBy (r13 + r17) M18)
  else fX10_castsBy_B119 zX10_castsBy (0 : Int32) M14)
  else bd (fX10_above a1 M) fun r19 M20 =>
  bd (zX10_castsBy r19 a2 M20) fun r21 M22 =>
  some (r21, M22)
theorem mX10_castsBy_b (l : Launch) (G : Gx) (zX10_castsBy : Int32 → Int32 → Mm → Option (Int32 × Mm)) (lev lev1 : Nat) (hlev : Nat.ble (lev1 + 1) lev = true) (hbase : 94 ≤ lev) (hzX10_castsBy : ∀ (a1 : Int32) (a2 : Int32) (M : Mm), Mt cQi l layM G lev1 yX10_castsBy cX10_castsBy 5 (some .int) [rf G 0, .int a1, .int a2] M (zX10_castsBy a1 a2 M)) (a1 : Int32) (a2 : Int32) (M : Mm) : Mt cQi l layM G lev yX10_castsBy cX10_castsBy 5 (some .int) [rf G 0, .int a1, .int a2] M (fX10_castsBy_b zX10_castsBy a1 a2 M) := by
  refine Mt.of2 (own := RX10) (lv := [(0, rf G 0), (1, .int a1), (2, .int a2)]) rfl (by decide +kernel) rfl rfl ?_
  unfold fX10_castsBy_b
  refine s_iload_n 1 dX10_castsBy_0 rfl rfl ?_
  refine s_lookup (tgt := 120) dX10_castsBy_1 (by decide) (by decide) (by decide) ?_
  refine lk_cons (k := 0) (tgt := 28) (by decide) (by decide) ?_ ?_
  · refine s_aload_n 0 dX10_castsBy_28 rfl rfl ?_
    refine s_bipush (v := 13) dX10_castsBy_29 cb_13 ?_
    refine s_call_v (s_runV (ci := 10) (rest := []) rfl rfl (mX10_begins l G (13 : Int32) M) ok_X10_begins k_X10_238 (ble_of hbase rfl) rfl rfl rfl dX10_castsBy_31) fun r1 M2 => ?_
    refine s_aload_n 0 dX10_castsBy_34 rfl rfl ?_
    refine s_call_i (s_runV (ci := 10) (rest := []) rfl rfl (mX10_mNow l G M2) ok_X10_mNow k_X10_253 (ble_of hbase rfl) rfl rfl rfl dX10_castsBy_35) fun r3 M4 => ?_
    refine s_aload_n 0 dX10_castsBy_38 rfl rfl ?_
    refine g_X10_235 rfl dX10_castsBy_39 ?_
    refine s_isub dX10_castsBy_42 ?_
    refine s_leti fun x5 => ?_
    refine s_istore_n (lv' := [(3, .int x5), (0, rf G 0), (1, .int a1), (2, .int a2)]) dX10_castsBy_43 rfl rfl rfl ?_
    refine s_aload_n 1 dX10_castsBy_44 rfl rfl ?_
    refine s_iload_n 0 dX10_castsBy_45 rfl rfl ?_
    refine s_ifne (tgt := 53) dX10_castsBy_46 (by decide) ?_ ?_
    · refine s_iconst (v := 0) dX10_castsBy_53 ci_0 ?_
      exact s_sub [0, 3] rfl (tX10_castsBy_B54 l G zX10_castsBy lev lev1 hlev hbase hzX10_castsBy x5 a2 (0 : Int32) M4)
    · refine s_iconst (v := 1) dX10_castsBy_49 ci_1 ?_
      refine s_goto (tgt := 54) dX10_castsBy_50 (by decide) ?_
      exact s_sub [0, 3] rfl (tX10_castsBy_B54 l G zX10_castsBy lev lev1 hlev hbase hzX10_castsBy x5 a2 (1 : Int32) M4)
  refine lk_cons (k := 1) (tgt := 79) (by decide) (by decide) ?_ ?_
  · refine s_aload_n 0 dX10_castsBy_79 rfl rfl ?_
    refine s_bipush (v := 21) dX10_castsBy_80 cb_21 ?_
    refine s_call_v (s_runV (ci := 10) (rest := []) rfl rfl (mX10_begins l G (21 : Int32) M) ok_X10_begins k_X10_238 (ble_of hbase rfl) rfl rfl rfl dX10_castsBy_82) fun r9 M10 => ?_
    refine s_aload_n 0 dX10_castsBy_85 rfl rfl ?_
    refine s_iconst (v := 1) dX10_castsBy_86 ci_1 ?_
    refine s_call_i (s_runS (rest := [rf G 0]) (mX10_above l G (1 : Int32) M10) ok_X10_above k_X10_241 (ble_of hbase rfl) rfl rfl rfl dX10_castsBy_87) fun r11 M12 => ?_
    refine s_iload_n 2 dX10_castsBy_90 rfl rfl ?_
    refine s_call_i (s_runV (ci := 10) (rest := []) rfl rfl (hzX10_castsBy r11 a2 M12) ok_X10_castsBy k_X10_263 hlev rfl rfl rfl dX10_castsBy_91) fun r13 M14 => ?_
    refine s_istore (lv' := [(4, .int r13), (0, rf G 0), (1, .int a1), (2, .int a2)]) dX10_castsBy_94 rfl rfl ?_
    refine s_aload_n 1 dX10_castsBy_96 rfl rfl ?_
    refine g_X10_259 rfl dX10_castsBy_97 ?_
    refine s_ifeq (tgt := 107) dX10_castsBy_100 (by decide) ?_ ?_
    · refine s_iload 0 dX10_castsBy_107 rfl ?_
      refine s_aload_n 1 dX10_castsBy_109 rfl rfl ?_
      refine s_aload_n 1 dX10_castsBy_110 rfl rfl ?_
      refine s_call_i (s_runV (ci := 10) (rest := [rf G 0, .int r13]) rfl rfl (mX10_kindNow l G M14) ok_X10_kindNow k_X10_247 (ble_of hbase rfl) rfl rfl rfl dX10_castsBy_111) fun r15 M16 => ?_
      refine s_iconst (v := 1) dX10_castsBy_114 ci_1 ?_
      refine s_call_i (s_runV (ci := 10) (rest := [.int r13]) rfl rfl (mX10_readsBy l G DPV r15 (1 : Int32) M16) ok_X10_readsBy k_X10_250 (ble_of hbase rfl) rfl rfl rfl dX10_castsBy_115) fun r17 M18 => ?_
      refine s_iadd dX10_castsBy_118 ?_
      exact s_sub [] rfl (tX10_castsBy_B119 l G zX10_castsBy lev lev1 hlev hbase hzX10_castsBy (r13 + r17) M18)
    · refine s_iconst (v := 0) dX10_castsBy_103 ci_0 ?_
      refine s_goto (tgt := 119) dX10_castsBy_104 (by decide) ?_
      exact s_sub [] rfl (tX10_castsBy_B119 l G zX10_castsBy lev lev1 hlev hbase hzX10_castsBy (0 : Int32) M14)
  refine lk_nil (tgt := 120) (by decide) ?_
  refine s_aload_n 0 dX10_castsBy_120 rfl rfl ?_
  refine s_iload_n 1 dX10_castsBy_121 rfl rfl ?_
  refine s_call_i (s_runS (rest := [rf G 0]) (mX10_above l G a1 M) ok_X10_above k_X10_241 (ble_of hbase rfl) rfl rfl rfl dX10_castsBy_122) fun r19 M20 => ?_
  refine s_iload_n 2 dX10_castsBy_125 rfl rfl ?_
  refine s_call_i (s_runV (ci := 10) (rest := []) rfl rfl (hzX10_castsBy r19 a2 M20) ok_X10_castsBy k_X10_263 hlev rfl rfl rfl dX10_castsBy_126) fun r21 M22 => ?_
  exact s_iret rfl dX10_castsBy_129
def grX10_castsBy : Nat → (Int32 → Int32 → Mm → Option (Int32 × Mm))
  | 0 => (fun _ _ _ => none)
  | d + 1 => (fX10_castsBy_b ((grX10_castsBy d)))
def fX10_castsBy (d : Nat) : Int32 → Int32 → Mm → Option (Int32 × Mm) := (grX10_castsBy d)
theorem mgX10_castsBy (l : Launch) (G : Gx) : ∀ d : Nat, (∀ (a1 : Int32) (a2 : Int32) (M : Mm), Mt cQi l layM G (94 + d) yX10_castsBy cX10_castsBy 5 (some .int) [rf G 0, .int a1, .int a2] M (fX10_castsBy d a1 a2 M))
  | 0 => fun _ _ _ => Mt.none
  | d + 1 => fun a1 a2 M => mX10_castsBy_b l G (fX10_castsBy d) (94 + (d + 1)) (94 + d) (Nat.ble_eq.mpr (Nat.le_refl _)) (Nat.le_add_right _ _) ((mgX10_castsBy l G d)) a1 a2 M
theorem mX10_castsBy (l : Launch) (G : Gx) (d : Nat) (a1 : Int32) (a2 : Int32) (M : Mm) : Mt cQi l layM G (94 + d) yX10_castsBy cX10_castsBy 5 (some .int) [rf G 0, .int a1, .int a2] M (fX10_castsBy d a1 a2 M) := (mgX10_castsBy l G d) a1 a2 M
theorem dX10_voice_0 : decode cX10_voice 0 = .ok (.aload_n 0, 1) := by decide +kernel
theorem dX10_voice_1 : decode cX10_voice 1 = .ok (.iload_n 1, 1) := by decide +kernel
theorem dX10_voice_2 : decode cX10_voice 2 = .ok (.invokevirtual 162, 3) := by decide +kernel
theorem dX10_voice_5 : decode cX10_voice 5 = .ok (.ifCond .eq 12, 3) := by decide +kernel
theorem dX10_voice_8 : decode cX10_voice 8 = .ok (.iload_n 2, 1) := by decide +kernel
theorem dX10_voice_9 : decode cX10_voice 9 = .ok (.iconst 0, 1) := by decide +kernel
theorem dX10_voice_10 : decode cX10_voice 10 = .ok (.iconst 3, 1) := by decide +kernel
theorem dX10_voice_11 : decode cX10_voice 11 = .ok (.invokestatic 59, 3) := by decide +kernel
theorem dX10_voice_14 : decode cX10_voice 14 = .ok (.ifCond .ne 9, 3) := by decide +kernel
theorem dX10_voice_17 : decode cX10_voice 17 = .ok (.aload_n 0, 1) := by decide +kernel
theorem dX10_voice_18 : decode cX10_voice 18 = .ok (.iconst 1, 1) := by decide +kernel
theorem dX10_voice_19 : decode cX10_voice 19 = .ok (.invokevirtual 75, 3) := by decide +kernel
theorem dX10_voice_22 : decode cX10_voice 22 = .ok (.ireturn, 1) := by decide +kernel
theorem dX10_voice_23 : decode cX10_voice 23 = .ok (.aload_n 0, 1) := by decide +kernel
theorem dX10_voice_24 : decode cX10_voice 24 = .ok (.iconst 0, 1) := by decide +kernel
theorem dX10_voice_25 : decode cX10_voice 25 = .ok (.putfield 232, 3) := by decide +kernel
theorem dX10_voice_28 : decode cX10_voice 28 = .ok (.aload_n 0, 1) := by decide +kernel
theorem dX10_voice_29 : decode cX10_voice 29 = .ok (.iload_n 1, 1) := by decide +kernel
theorem dX10_voice_30 : decode cX10_voice 30 = .ok (.putfield 235, 3) := by decide +kernel
theorem dX10_voice_33 : decode cX10_voice 33 = .ok (.aload_n 0, 1) := by decide +kernel
theorem dX10_voice_34 : decode cX10_voice 34 = .ok (.iconst 0, 1) := by decide +kernel
theorem dX10_voice_35 : decode cX10_voice 35 = .ok (.putfield 259, 3) := by decide +kernel
theorem dX10_voice_38 : decode cX10_voice 38 = .ok (.aload_n 0, 1) := by decide +kernel
theorem dX10_voice_39 : decode cX10_voice 39 = .ok (.invokevirtual 247, 3) := by decide +kernel
theorem dX10_voice_42 : decode cX10_voice 42 = .ok (.istore 4, 2) := by decide +kernel
theorem dX10_voice_44 : decode cX10_voice 44 = .ok (.iload_n 2, 1) := by decide +kernel
theorem dX10_voice_45 : decode cX10_voice 45 = .ok (.ifCond .ne 13, 3) := by decide +kernel
theorem dX10_voice_48 : decode cX10_voice 48 = .ok (.aload_n 0, 1) := by decide +kernel
theorem dX10_voice_49 : decode cX10_voice 49 = .ok (.iload 4, 2) := by decide +kernel
theorem dX10_voice_51 : decode cX10_voice 51 = .ok (.iload_n 3, 1) := by decide +kernel
theorem dX10_voice_52 : decode cX10_voice 52 = .ok (.invokevirtual 244, 3) := by decide +kernel
theorem dX10_voice_55 : decode cX10_voice 55 = .ok (.goto 40, 3) := by decide +kernel
theorem dX10_voice_58 : decode cX10_voice 58 = .ok (.iload_n 2, 1) := by decide +kernel
theorem dX10_voice_59 : decode cX10_voice 59 = .ok (.iconst 1, 1) := by decide +kernel
theorem dX10_voice_60 : decode cX10_voice 60 = .ok (.if_icmp .ne 13, 3) := by decide +kernel
theorem dX10_voice_63 : decode cX10_voice 63 = .ok (.aload_n 0, 1) := by decide +kernel
theorem dX10_voice_64 : decode cX10_voice 64 = .ok (.iload 4, 2) := by decide +kernel
theorem dX10_voice_66 : decode cX10_voice 66 = .ok (.iload_n 3, 1) := by decide +kernel
theorem dX10_voice_67 : decode cX10_voice 67 = .ok (.invokevirtual 250, 3) := by decide +kernel
theorem dX10_voice_70 : decode cX10_voice 70 = .ok (.goto 25, 3) := by decide +kernel
theorem dX10_voice_73 : decode cX10_voice 73 = .ok (.iload_n 2, 1) := by decide +kernel
theorem dX10_voice_74 : decode cX10_voice 74 = .ok (.iconst 2, 1) := by decide +kernel
theorem dX10_voice_75 : decode cX10_voice 75 = .ok (.if_icmp .ne 13, 3) := by decide +kernel
theorem dX10_voice_78 : decode cX10_voice 78 = .ok (.aload_n 0, 1) := by decide +kernel
theorem dX10_voice_79 : decode cX10_voice 79 = .ok (.iload 4, 2) := by decide +kernel
theorem dX10_voice_81 : decode cX10_voice 81 = .ok (.iload_n 3, 1) := by decide +kernel
theorem dX10_voice_82 : decode cX10_voice 82 = .ok (.invokevirtual 256, 3) := by decide +kernel
theorem dX10_voice_85 : decode cX10_voice 85 = .ok (.goto 10, 3) := by decide +kernel
theorem dX10_voice_88 : decode cX10_voice 88 = .ok (.aload_n 0, 1) := by decide +kernel
theorem dX10_voice_89 : decode cX10_voice 89 = .ok (.iload 4, 2) := by decide +kernel
theorem dX10_voice_91 : decode cX10_voice 91 = .ok (.iload_n 3, 1) := by decide +kernel
theorem dX10_voice_92 : decode cX10_voice 92 = .ok (.invokevirtual 263, 3) := by decide +kernel
theorem dX10_voice_95 : decode cX10_voice 95 = .ok (.istore 5, 2) := by decide +kernel
theorem dX10_voice_97 : decode cX10_voice 97 = .ok (.aload_n 0, 1) := by decide +kernel
theorem dX10_voice_98 : decode cX10_voice 98 = .ok (.getfield 259, 3) := by decide +kernel
theorem dX10_voice_101 : decode cX10_voice 101 = .ok (.ifCond .eq 12, 3) := by decide +kernel
theorem dX10_voice_104 : decode cX10_voice 104 = .ok (.aload_n 0, 1) := by decide +kernel
theorem dX10_voice_105 : decode cX10_voice 105 = .ok (.bipush 6, 2) := by decide +kernel
theorem dX10_voice_107 : decode cX10_voice 107 = .ok (.invokevirtual 75, 3) := by decide +kernel
theorem dX10_voice_110 : decode cX10_voice 110 = .ok (.goto 5, 3) := by decide +kernel
theorem dX10_voice_113 : decode cX10_voice 113 = .ok (.iload 5, 2) := by decide +kernel
theorem dX10_voice_115 : decode cX10_voice 115 = .ok (.ireturn, 1) := by decide +kernel
def fX10_voice_B17 (M : Mm) : Option (Int32 × Mm) :=
  bd (fX10_error (1 : Int32) M) fun r5 M6 =>
  some (r5, M6)
theorem tX10_voice_B17 (l : Launch) (G : Gx) (M : Mm) : Sim cQi l layM G 140 cX10_voice RX10 6 (some .int) 17 [(0, rf G 0)] [] M (fX10_voice_B17 M) := by
  unfold fX10_voice_B17
  refine s_aload_n 0 dX10_voice_17 rfl rfl ?_
  refine s_iconst (v := 1) dX10_voice_18 ci_1 ?_
  refine s_call_i (s_runV (ci := 10) (rest := []) rfl rfl (mX10_error l G (1 : Int32) M) ok_X10_error k_X10_75 rfl rfl rfl rfl dX10_voice_19) fun r5 M6 => ?_
  exact s_iret rfl dX10_voice_22
def fX10_voice_B115 (w0 : Int32) (M : Mm) : Option (Int32 × Mm) :=
  some (w0, M)
theorem tX10_voice_B115 (l : Launch) (G : Gx) (w0 : Int32) (M : Mm) : Sim cQi l layM G 140 cX10_voice RX10 6 (some .int) 115 [] [.int w0] M (fX10_voice_B115 w0 M) := by
  unfold fX10_voice_B115
  exact s_iret rfl dX10_voice_115
def fX10_voice_B95 (w0 : Int32) (M : Mm) : Option (Int32 × Mm) :=
  if (M 0 21) = 0 then (fX10_voice_B115 w0 M)
  else bd (fX10_error (6 : Int32) M) fun r14 M15 =>
  fX10_voice_B115 r14 M15
theorem tX10_voice_B95 (l : Launch) (G : Gx) (w0 : Int32) (M : Mm) : Sim cQi l layM G 140 cX10_voice RX10 6 (some .int) 95 [(0, rf G 0)] [.int w0] M (fX10_voice_B95 w0 M) := by
  unfold fX10_voice_B95
  refine s_istore (lv' := [(5, .int w0), (0, rf G 0)]) dX10_voice_95 rfl rfl ?_
  refine s_aload_n 1 dX10_voice_97 rfl rfl ?_
  refine g_X10_259 rfl dX10_voice_98 ?_
  refine s_ifeq (tgt := 113) dX10_voice_101 (by decide) ?_ ?_
  · refine s_iload 0 dX10_voice_113 rfl ?_
    exact s_sub [] rfl (tX10_voice_B115 l G w0 M)
  · refine s_aload_n 1 dX10_voice_104 rfl rfl ?_
    refine s_bipush (v := 6) dX10_voice_105 cb_6 ?_
    refine s_call_i (s_runV (ci := 10) (rest := []) rfl rfl (mX10_error l G (6 : Int32) M) ok_X10_error k_X10_75 rfl rfl rfl rfl dX10_voice_107) fun r14 M15 => ?_
    refine s_goto (tgt := 115) dX10_voice_110 (by decide) ?_
    exact s_sub [] rfl (tX10_voice_B115 l G r14 M15)
def fX10_voice (a1 : Int32) (a2 : Int32) (a3 : Int32) (M : Mm) : Option (Int32 × Mm) :=
  bd (fX10_isLetter a1 M) fun r1 M2 =>
  if r1 = true then (bd (fX10_in a2 (0 : Int32) (3 : Int32) M2) fun r3 M4 =>
  if r3 = true then (lt (wr M4 0 19 (0 : Int32)) fun M7 =>
  lt (wr M7 0 20 a1) fun M8 =>
  lt (wr M8 0 21 (0 : Int32)) fun M9 =>
  bd (fX10_kindNow M9) fun r10 M11 =>
  if a2 = 0 then (bd (fX10_meltsBy DPV r10 a3 M11) fun r20 M21 =>
  fX10_voice_B95 r20 M21)
  else if a2 = (1 : Int32) then (bd (fX10_readsBy DPV r10 a3 M11) fun r18 M19 =>
  fX10_voice_B95 r18 M19)
  else if a2 = (2 : Int32) then (bd (fX10_dripsBy DPV r10 a3 M11) fun r16 M17 =>
  fX10_voice_B95 r16 M17)
  else bd (fX10_castsBy DPV r10 a3 M11) fun r12 M13 =>
  fX10_voice_B95 r12 M13)
  else fX10_voice_B17 M4)
  else fX10_voice_B17 M2
theorem mX10_voice (l : Launch) (G : Gx) (a1 : Int32) (a2 : Int32) (a3 : Int32) (M : Mm) : Mt cQi l layM G 140 yX10_voice cX10_voice 6 (some .int) [rf G 0, .int a1, .int a2, .int a3] M (fX10_voice a1 a2 a3 M) := by
  refine Mt.of2 (own := RX10) (lv := [(0, rf G 0), (1, .int a1), (2, .int a2), (3, .int a3)]) rfl (by decide +kernel) rfl rfl ?_
  unfold fX10_voice
  refine s_aload_n 0 dX10_voice_0 rfl rfl ?_
  refine s_iload_n 1 dX10_voice_1 rfl rfl ?_
  refine s_call_z (s_runV (ci := 10) (rest := []) rfl rfl (mX10_isLetter l G a1 M) ok_X10_isLetter k_X10_162 rfl rfl rfl rfl dX10_voice_2) fun r1 M2 => ?_
  refine s_ifeqB (tgt := 17) dX10_voice_5 (by decide) ?_ ?_
  · exact s_sub [0] rfl (tX10_voice_B17 l G M2)
  · refine s_iload_n 2 dX10_voice_8 rfl rfl ?_
    refine s_iconst (v := 0) dX10_voice_9 ci_0 ?_
    refine s_iconst (v := 3) dX10_voice_10 ci_3 ?_
    refine s_call_z (s_runS (rest := []) (mX10_in l G a2 (0 : Int32) (3 : Int32) M2) ok_X10_in k_X10_59 rfl rfl rfl rfl dX10_voice_11) fun r3 M4 => ?_
    refine s_ifneB (tgt := 23) dX10_voice_14 (by decide) ?_ ?_
    · refine s_aload_n 0 dX10_voice_23 rfl rfl ?_
      refine s_iconst (v := 0) dX10_voice_24 ci_0 ?_
      refine p_X10_232 rfl dX10_voice_25 ?_
      refine s_letM fun M7 => ?_
      refine s_aload_n 0 dX10_voice_28 rfl rfl ?_
      refine s_iload_n 1 dX10_voice_29 rfl rfl ?_
      refine p_X10_235 rfl dX10_voice_30 ?_
      refine s_letM fun M8 => ?_
      refine s_aload_n 0 dX10_voice_33 rfl rfl ?_
      refine s_iconst (v := 0) dX10_voice_34 ci_0 ?_
      refine p_X10_259 rfl ⟨rfl, rfl⟩ dX10_voice_35 ?_
      refine s_letM fun M9 => ?_
      refine s_aload_n 0 dX10_voice_38 rfl rfl ?_
      refine s_call_i (s_runV (ci := 10) (rest := []) rfl rfl (mX10_kindNow l G M9) ok_X10_kindNow k_X10_247 rfl rfl rfl rfl dX10_voice_39) fun r10 M11 => ?_
      refine s_istore (lv' := [(4, .int r10), (0, rf G 0), (1, .int a1), (2, .int a2), (3, .int a3)]) dX10_voice_42 rfl rfl ?_
      refine s_iload_n 3 dX10_voice_44 rfl rfl ?_
      refine s_ifne (tgt := 58) dX10_voice_45 (by decide) ?_ ?_
      · refine s_iload_n 3 dX10_voice_58 rfl rfl ?_
        refine s_iconst (v := 1) dX10_voice_59 ci_1 ?_
        refine s_icmpne (tgt := 73) dX10_voice_60 (by decide) ?_ ?_
        · refine s_iload_n 3 dX10_voice_73 rfl rfl ?_
          refine s_iconst (v := 2) dX10_voice_74 ci_2 ?_
          refine s_icmpne (tgt := 88) dX10_voice_75 (by decide) ?_ ?_
          · refine s_aload_n 1 dX10_voice_88 rfl rfl ?_
            refine s_iload 0 dX10_voice_89 rfl ?_
            refine s_iload_n 4 dX10_voice_91 rfl rfl ?_
            refine s_call_i (s_runV (ci := 10) (rest := []) rfl rfl (mX10_castsBy l G DPV r10 a3 M11) ok_X10_castsBy k_X10_263 rfl rfl rfl rfl dX10_voice_92) fun r12 M13 => ?_
            exact s_sub [1] rfl (tX10_voice_B95 l G r12 M13)
          · refine s_aload_n 1 dX10_voice_78 rfl rfl ?_
            refine s_iload 0 dX10_voice_79 rfl ?_
            refine s_iload_n 4 dX10_voice_81 rfl rfl ?_
            refine s_call_i (s_runV (ci := 10) (rest := []) rfl rfl (mX10_dripsBy l G DPV r10 a3 M11) ok_X10_dripsBy k_X10_256 rfl rfl rfl rfl dX10_voice_82) fun r16 M17 => ?_
            refine s_goto (tgt := 95) dX10_voice_85 (by decide) ?_
            exact s_sub [1] rfl (tX10_voice_B95 l G r16 M17)
        · refine s_aload_n 1 dX10_voice_63 rfl rfl ?_
          refine s_iload 0 dX10_voice_64 rfl ?_
          refine s_iload_n 4 dX10_voice_66 rfl rfl ?_
          refine s_call_i (s_runV (ci := 10) (rest := []) rfl rfl (mX10_readsBy l G DPV r10 a3 M11) ok_X10_readsBy k_X10_250 rfl rfl rfl rfl dX10_voice_67) fun r18 M19 => ?_
          refine s_goto (tgt := 95) dX10_voice_70 (by decide) ?_
          exact s_sub [1] rfl (tX10_voice_B95 l G r18 M19)
      · refine s_aload_n 1 dX10_voice_48 rfl rfl ?_
        refine s_iload 0 dX10_voice_49 rfl ?_
        refine s_iload_n 4 dX10_voice_51 rfl rfl ?_
        refine s_call_i (s_runV (ci := 10) (rest := []) rfl rfl (mX10_meltsBy l G DPV r10 a3 M11) ok_X10_meltsBy k_X10_244 rfl rfl rfl rfl dX10_voice_52) fun r20 M21 => ?_
        refine s_goto (tgt := 95) dX10_voice_55 (by decide) ?_
        exact s_sub [1] rfl (tX10_voice_B95 l G r20 M21)
    · exact s_sub [0] rfl (tX10_voice_B17 l G M4)
theorem dX10_body_0 : decode cX10_body 0 = .ok (.iload_n 1, 1) := by decide +kernel
theorem dX10_body_1 : decode cX10_body 1 = .ok (.iconst 0, 1) := by decide +kernel
theorem dX10_body_2 : decode cX10_body 2 = .ok (.aload_n 0, 1) := by decide +kernel
theorem dX10_body_3 : decode cX10_body 3 = .ok (.getfield 232, 3) := by decide +kernel
theorem dX10_body_6 : decode cX10_body 6 = .ok (.iconst 1, 1) := by decide +kernel
theorem dX10_body_7 : decode cX10_body 7 = .ok (.isub, 1) := by decide +kernel
theorem dX10_body_8 : decode cX10_body 8 = .ok (.invokestatic 59, 3) := by decide +kernel
theorem dX10_body_11 : decode cX10_body 11 = .ok (.ifCond .eq 12, 3) := by decide +kernel
theorem dX10_body_14 : decode cX10_body 14 = .ok (.aload_n 0, 1) := by decide +kernel
theorem dX10_body_15 : decode cX10_body 15 = .ok (.getfield 43, 3) := by decide +kernel
theorem dX10_body_18 : decode cX10_body 18 = .ok (.iload_n 1, 1) := by decide +kernel
theorem dX10_body_19 : decode cX10_body 19 = .ok (.iaload, 1) := by decide +kernel
theorem dX10_body_20 : decode cX10_body 20 = .ok (.goto 8, 3) := by decide +kernel
theorem dX10_body_23 : decode cX10_body 23 = .ok (.aload_n 0, 1) := by decide +kernel
theorem dX10_body_24 : decode cX10_body 24 = .ok (.iconst 2, 1) := by decide +kernel
theorem dX10_body_25 : decode cX10_body 25 = .ok (.invokevirtual 75, 3) := by decide +kernel
theorem dX10_body_28 : decode cX10_body 28 = .ok (.ireturn, 1) := by decide +kernel
def fX10_body_B28 (w0 : Int32) (M : Mm) : Option (Int32 × Mm) :=
  some (w0, M)
theorem tX10_body_B28 (l : Launch) (G : Gx) (w0 : Int32) (M : Mm) : Sim cQi l layM G 2 cX10_body RX10 2 (some .int) 28 [] [.int w0] M (fX10_body_B28 w0 M) := by
  unfold fX10_body_B28
  exact s_iret rfl dX10_body_28
def fX10_body (a1 : Int32) (M : Mm) : Option (Int32 × Mm) :=
  bd (fX10_in a1 (0 : Int32) ((M 0 19) - (1 : Int32)) M) fun r1 M2 =>
  if r1 = true then (gd (inb a1 30) <|
  fX10_body_B28 (M2 12 (ix a1)) M2)
  else bd (fX10_error (2 : Int32) M2) fun r4 M5 =>
  fX10_body_B28 r4 M5
theorem mX10_body (l : Launch) (G : Gx) (a1 : Int32) (M : Mm) : Mt cQi l layM G 2 yX10_body cX10_body 2 (some .int) [rf G 0, .int a1] M (fX10_body a1 M) := by
  refine Mt.of2 (own := RX10) (lv := [(0, rf G 0), (1, .int a1)]) rfl (by decide +kernel) rfl rfl ?_
  unfold fX10_body
  refine s_iload_n 1 dX10_body_0 rfl rfl ?_
  refine s_iconst (v := 0) dX10_body_1 ci_0 ?_
  refine s_aload_n 0 dX10_body_2 rfl rfl ?_
  refine g_X10_232 rfl dX10_body_3 ?_
  refine s_iconst (v := 1) dX10_body_6 ci_1 ?_
  refine s_isub dX10_body_7 ?_
  refine s_call_z (s_runS (rest := []) (mX10_in l G a1 (0 : Int32) ((M 0 19) - (1 : Int32)) M) ok_X10_in k_X10_59 rfl rfl rfl rfl dX10_body_8) fun r1 M2 => ?_
  refine s_ifeqB (tgt := 23) dX10_body_11 (by decide) ?_ ?_
  · refine s_aload_n 0 dX10_body_23 rfl rfl ?_
    refine s_iconst (v := 2) dX10_body_24 ci_2 ?_
    refine s_call_i (s_runV (ci := 10) (rest := []) rfl rfl (mX10_error l G (2 : Int32) M2) ok_X10_error k_X10_75 rfl rfl rfl rfl dX10_body_25) fun r4 M5 => ?_
    exact s_sub [] rfl (tX10_body_B28 l G r4 M5)
  · refine s_aload_n 0 dX10_body_14 rfl rfl ?_
    refine g_X10_43 (q := 12) rfl rfl dX10_body_15 ?_
    refine s_iload_n 1 dX10_body_18 rfl rfl ?_
    refine s_gd fun h3 => ?_
    refine s_iald (n := 30) rfl h3 dX10_body_19 ?_
    refine s_goto (tgt := 28) dX10_body_20 (by decide) ?_
    exact s_sub [] rfl (tX10_body_B28 l G (M2 12 (ix a1)) M2)
theorem dX10_isSheet_0 : decode cX10_isSheet 0 = .ok (.iload_n 0, 1) := by decide +kernel
theorem dX10_isSheet_1 : decode cX10_isSheet 1 = .ok (.iconst 0, 1) := by decide +kernel
theorem dX10_isSheet_2 : decode cX10_isSheet 2 = .ok (.iconst 3, 1) := by decide +kernel
theorem dX10_isSheet_3 : decode cX10_isSheet 3 = .ok (.invokestatic 59, 3) := by decide +kernel
theorem dX10_isSheet_6 : decode cX10_isSheet 6 = .ok (.ireturn, 1) := by decide +kernel
def fX10_isSheet (a1 : Int32) (M : Mm) : Option (Bool × Mm) :=
  bd (fX10_in a1 (0 : Int32) (3 : Int32) M) fun r1 M2 =>
  some (r1, M2)
theorem mX10_isSheet (l : Launch) (G : Gx) (a1 : Int32) (M : Mm) : Mt cQz l layM G 2 yX10_isSheet cX10_isSheet 1 (some .boolean) [.int a1] M (fX10_isSheet a1 M) := by
  refine Mt.of2 (own := RX10) (lv := [(0, .int a1)]) rfl (by decide +kernel) rfl rfl ?_
  unfold fX10_isSheet
  refine s_iload_n 0 dX10_isSheet_0 rfl rfl ?_
  refine s_iconst (v := 0) dX10_isSheet_1 ci_0 ?_
  refine s_iconst (v := 3) dX10_isSheet_2 ci_3 ?_
  refine s_call_z (s_runS (rest := []) (mX10_in l G a1 (0 : Int32) (3 : Int32) M) ok_X10_in k_X10_59 rfl rfl rfl rfl dX10_isSheet_3) fun r1 M2 => ?_
  exact s_zretB rfl dX10_isSheet_6
theorem dX10_sheet_0 : decode cX10_sheet 0 = .ok (.iload_n 1, 1) := by decide +kernel
theorem dX10_sheet_1 : decode cX10_sheet 1 = .ok (.invokestatic 266, 3) := by decide +kernel
theorem dX10_sheet_4 : decode cX10_sheet 4 = .ok (.ifCond .eq 25, 3) := by decide +kernel
theorem dX10_sheet_7 : decode cX10_sheet 7 = .ok (.iload_n 2, 1) := by decide +kernel
theorem dX10_sheet_8 : decode cX10_sheet 8 = .ok (.ifCond .eq 27, 3) := by decide +kernel
theorem dX10_sheet_11 : decode cX10_sheet 11 = .ok (.iload_n 2, 1) := by decide +kernel
theorem dX10_sheet_12 : decode cX10_sheet 12 = .ok (.bipush 8, 2) := by decide +kernel
theorem dX10_sheet_14 : decode cX10_sheet 14 = .ok (.if_icmp .eq 21, 3) := by decide +kernel
theorem dX10_sheet_17 : decode cX10_sheet 17 = .ok (.iload_n 2, 1) := by decide +kernel
theorem dX10_sheet_18 : decode cX10_sheet 18 = .ok (.bipush 16, 2) := by decide +kernel
theorem dX10_sheet_20 : decode cX10_sheet 20 = .ok (.if_icmp .eq 15, 3) := by decide +kernel
theorem dX10_sheet_23 : decode cX10_sheet 23 = .ok (.iload_n 2, 1) := by decide +kernel
theorem dX10_sheet_24 : decode cX10_sheet 24 = .ok (.bipush 32, 2) := by decide +kernel
theorem dX10_sheet_26 : decode cX10_sheet 26 = .ok (.if_icmp .eq 9, 3) := by decide +kernel
theorem dX10_sheet_29 : decode cX10_sheet 29 = .ok (.aload_n 0, 1) := by decide +kernel
theorem dX10_sheet_30 : decode cX10_sheet 30 = .ok (.iconst 1, 1) := by decide +kernel
theorem dX10_sheet_31 : decode cX10_sheet 31 = .ok (.invokevirtual 75, 3) := by decide +kernel
theorem dX10_sheet_34 : decode cX10_sheet 34 = .ok (.ireturn, 1) := by decide +kernel
theorem dX10_sheet_35 : decode cX10_sheet 35 = .ok (.iload_n 2, 1) := by decide +kernel
theorem dX10_sheet_36 : decode cX10_sheet 36 = .ok (.ifCond .eq 13, 3) := by decide +kernel
theorem dX10_sheet_39 : decode cX10_sheet 39 = .ok (.iload_n 3, 1) := by decide +kernel
theorem dX10_sheet_40 : decode cX10_sheet 40 = .ok (.ifCond .ge 9, 3) := by decide +kernel
theorem dX10_sheet_43 : decode cX10_sheet 43 = .ok (.aload_n 0, 1) := by decide +kernel
theorem dX10_sheet_44 : decode cX10_sheet 44 = .ok (.iconst 3, 1) := by decide +kernel
theorem dX10_sheet_45 : decode cX10_sheet 45 = .ok (.invokevirtual 75, 3) := by decide +kernel
theorem dX10_sheet_48 : decode cX10_sheet 48 = .ok (.ireturn, 1) := by decide +kernel
theorem dX10_sheet_49 : decode cX10_sheet 49 = .ok (.iload_n 2, 1) := by decide +kernel
theorem dX10_sheet_50 : decode cX10_sheet 50 = .ok (.ifCond .eq 15, 3) := by decide +kernel
theorem dX10_sheet_53 : decode cX10_sheet 53 = .ok (.iload_n 3, 1) := by decide +kernel
theorem dX10_sheet_54 : decode cX10_sheet 54 = .ok (.bipush 24, 2) := by decide +kernel
theorem dX10_sheet_56 : decode cX10_sheet 56 = .ok (.if_icmp .le 9, 3) := by decide +kernel
theorem dX10_sheet_59 : decode cX10_sheet 59 = .ok (.aload_n 0, 1) := by decide +kernel
theorem dX10_sheet_60 : decode cX10_sheet 60 = .ok (.iconst 1, 1) := by decide +kernel
theorem dX10_sheet_61 : decode cX10_sheet 61 = .ok (.invokevirtual 75, 3) := by decide +kernel
theorem dX10_sheet_64 : decode cX10_sheet 64 = .ok (.ireturn, 1) := by decide +kernel
theorem dX10_sheet_65 : decode cX10_sheet 65 = .ok (.aload_n 0, 1) := by decide +kernel
theorem dX10_sheet_66 : decode cX10_sheet 66 = .ok (.getfield 46, 3) := by decide +kernel
theorem dX10_sheet_69 : decode cX10_sheet 69 = .ok (.iload_n 1, 1) := by decide +kernel
theorem dX10_sheet_70 : decode cX10_sheet 70 = .ok (.iload_n 2, 1) := by decide +kernel
theorem dX10_sheet_71 : decode cX10_sheet 71 = .ok (.iastore, 1) := by decide +kernel
theorem dX10_sheet_72 : decode cX10_sheet 72 = .ok (.aload_n 0, 1) := by decide +kernel
theorem dX10_sheet_73 : decode cX10_sheet 73 = .ok (.getfield 49, 3) := by decide +kernel
theorem dX10_sheet_76 : decode cX10_sheet 76 = .ok (.iload_n 1, 1) := by decide +kernel
theorem dX10_sheet_77 : decode cX10_sheet 77 = .ok (.iload_n 2, 1) := by decide +kernel
theorem dX10_sheet_78 : decode cX10_sheet 78 = .ok (.ifCond .ne 7, 3) := by decide +kernel
theorem dX10_sheet_81 : decode cX10_sheet 81 = .ok (.iconst 0, 1) := by decide +kernel
theorem dX10_sheet_82 : decode cX10_sheet 82 = .ok (.goto 4, 3) := by decide +kernel
theorem dX10_sheet_85 : decode cX10_sheet 85 = .ok (.iload_n 3, 1) := by decide +kernel
theorem dX10_sheet_86 : decode cX10_sheet 86 = .ok (.iastore, 1) := by decide +kernel
theorem dX10_sheet_87 : decode cX10_sheet 87 = .ok (.iconst 0, 1) := by decide +kernel
theorem dX10_sheet_88 : decode cX10_sheet 88 = .ok (.istore 4, 2) := by decide +kernel
theorem dX10_sheet_90 : decode cX10_sheet 90 = .ok (.iload 4, 2) := by decide +kernel
theorem dX10_sheet_92 : decode cX10_sheet 92 = .ok (.bipush 24, 2) := by decide +kernel
theorem dX10_sheet_94 : decode cX10_sheet 94 = .ok (.if_icmp .ge 22, 3) := by decide +kernel
theorem dX10_sheet_97 : decode cX10_sheet 97 = .ok (.aload_n 0, 1) := by decide +kernel
theorem dX10_sheet_98 : decode cX10_sheet 98 = .ok (.getfield 52, 3) := by decide +kernel
theorem dX10_sheet_101 : decode cX10_sheet 101 = .ok (.bipush 24, 2) := by decide +kernel
theorem dX10_sheet_103 : decode cX10_sheet 103 = .ok (.iload_n 1, 1) := by decide +kernel
theorem dX10_sheet_104 : decode cX10_sheet 104 = .ok (.imul, 1) := by decide +kernel
theorem dX10_sheet_105 : decode cX10_sheet 105 = .ok (.iload 4, 2) := by decide +kernel
theorem dX10_sheet_107 : decode cX10_sheet 107 = .ok (.iadd, 1) := by decide +kernel
theorem dX10_sheet_108 : decode cX10_sheet 108 = .ok (.iconst 0, 1) := by decide +kernel
theorem dX10_sheet_109 : decode cX10_sheet 109 = .ok (.iastore, 1) := by decide +kernel
theorem dX10_sheet_110 : decode cX10_sheet 110 = .ok (.iinc 4 1, 3) := by decide +kernel
theorem dX10_sheet_113 : decode cX10_sheet 113 = .ok (.goto (-23), 3) := by decide +kernel
theorem dX10_sheet_116 : decode cX10_sheet 116 = .ok (.iconst 1, 1) := by decide +kernel
theorem dX10_sheet_117 : decode cX10_sheet 117 = .ok (.ireturn, 1) := by decide +kernel
def fX10_sheet_B116 (M : Mm) : Option (Int32 × Mm) :=
  some ((1 : Int32), M)
theorem tX10_sheet_B116 (l : Launch) (G : Gx) (M : Mm) : Sim cQi l layM G 3 cX10_sheet RX10 5 (some .int) 116 [] [] M (fX10_sheet_B116 M) := by
  unfold fX10_sheet_B116
  refine s_iconst (v := 1) dX10_sheet_116 ci_1 ?_
  exact s_iret rfl dX10_sheet_117
def fX10_sheet_L90b (v1 : Int32) (q90 : Int32 → Mm → Option (Int32 × Mm)) (v4 : Int32) (M : Mm) : Option (Int32 × Mm) :=
  if (24 : Int32) ≤ v4 then (fX10_sheet_B116 M)
  else gd (inb (((24 : Int32) * v1) + v4) 96) <|
  lt (wr M 15 (ix (((24 : Int32) * v1) + v4)) (0 : Int32)) fun M8 =>
  q90 (v4 + 1) M8
def fX10_sheet_L90 (v1 : Int32) : Nat → Int32 → Mm → Option (Int32 × Mm)
  | 0 => fun _ _ => none
  | n + 1 => fX10_sheet_L90b v1 (fX10_sheet_L90 v1 n)
theorem tX10_sheet_L90b (l : Launch) (G : Gx) (v1 : Int32) (q90 : Int32 → Mm → Option (Int32 × Mm)) (hq90 : ∀ (v4 : Int32) (M : Mm), Sim cQi l layM G 3 cX10_sheet RX10 5 (some .int) 90 [(4, .int v4), (0, rf G 0), (1, .int v1)] [] M (q90 v4 M)) (v4 : Int32) (M : Mm) : Sim cQi l layM G 3 cX10_sheet RX10 5 (some .int) 90 [(4, .int v4), (0, rf G 0), (1, .int v1)] [] M (fX10_sheet_L90b v1 q90 v4 M) := by
  unfold fX10_sheet_L90b
  refine s_iload 0 dX10_sheet_90 rfl ?_
  refine s_bipush (v := 24) dX10_sheet_92 cb_24 ?_
  refine s_icmpge (tgt := 116) dX10_sheet_94 (by decide) ?_ ?_
  · exact s_sub [] rfl (tX10_sheet_B116 l G M)
  · refine s_aload_n 1 dX10_sheet_97 rfl rfl ?_
    refine g_X10_52 (q := 15) rfl rfl dX10_sheet_98 ?_
    refine s_bipush (v := 24) dX10_sheet_101 cb_24 ?_
    refine s_iload_n 2 dX10_sheet_103 rfl rfl ?_
    refine s_imul dX10_sheet_104 ?_
    refine s_iload 0 dX10_sheet_105 rfl ?_
    refine s_iadd dX10_sheet_107 ?_
    refine s_iconst (v := 0) dX10_sheet_108 ci_0 ?_
    refine s_gd fun h7 => ?_
    refine s_iast (n := 96) rfl h7 dX10_sheet_109 ?_
    refine s_letM fun M8 => ?_
    refine s_iinc (k := 0) (lv' := [(4, .int (v4 + 1)), (0, rf G 0), (1, .int v1)]) dX10_sheet_110 rfl ci_1 rfl rfl ?_
    refine s_goto (tgt := 90) dX10_sheet_113 (by decide) ?_
    exact s_sub [0, 1, 2] rfl (hq90 (v4 + 1) M8)
theorem tX10_sheet_L90 (l : Launch) (G : Gx) (v1 : Int32) : ∀ (n : Nat) (v4 : Int32) (M : Mm), Sim cQi l layM G 3 cX10_sheet RX10 5 (some .int) 90 [(4, .int v4), (0, rf G 0), (1, .int v1)] [] M (fX10_sheet_L90 v1 n v4 M)
  | 0, _, _ => s_none
  | n + 1, v4, M => tX10_sheet_L90b l G v1 _ (tX10_sheet_L90 l G v1 n) v4 M
def fX10_sheet_B86 (v1 : Int32) (w0 : Int32) (w1 : Int32) (M : Mm) : Option (Int32 × Mm) :=
  gd (inb w1 4) <|
  lt (wr M 14 (ix w1) w0) fun M6 =>
  fX10_sheet_L90 v1 FU (0 : Int32) M6
theorem tX10_sheet_B86 (l : Launch) (G : Gx) (v1 : Int32) (w0 : Int32) (w1 : Int32) (M : Mm) : Sim cQi l layM G 3 cX10_sheet RX10 5 (some .int) 86 [(0, rf G 0), (1, .int v1)] [.int w0, .int w1, rf G 14] M (fX10_sheet_B86 v1 w0 w1 M) := by
  unfold fX10_sheet_B86
  refine s_gd fun h5 => ?_
  refine s_iast (n := 4) rfl h5 dX10_sheet_86 ?_
  refine s_letM fun M6 => ?_
  refine s_iconst (v := 0) dX10_sheet_87 ci_0 ?_
  refine s_istore (lv' := [(4, .int (0 : Int32)), (0, rf G 0), (1, .int v1)]) dX10_sheet_88 rfl rfl ?_
  exact s_sub [0, 1, 2] rfl (tX10_sheet_L90 l G v1 FU (0 : Int32) M6)
def fX10_sheet_B65 (v1 : Int32) (v2 : Int32) (v3 : Int32) (M : Mm) : Option (Int32 × Mm) :=
  gd (inb v1 4) <|
  lt (wr M 13 (ix v1) v2) fun M4 =>
  if v2 = 0 then (fX10_sheet_B86 v1 (0 : Int32) v1 M4)
  else fX10_sheet_B86 v1 v3 v1 M4
theorem tX10_sheet_B65 (l : Launch) (G : Gx) (v1 : Int32) (v2 : Int32) (v3 : Int32) (M : Mm) : Sim cQi l layM G 3 cX10_sheet RX10 5 (some .int) 65 [(0, rf G 0), (1, .int v1), (2, .int v2), (3, .int v3)] [] M (fX10_sheet_B65 v1 v2 v3 M) := by
  unfold fX10_sheet_B65
  refine s_aload_n 0 dX10_sheet_65 rfl rfl ?_
  refine g_X10_46 (q := 13) rfl rfl dX10_sheet_66 ?_
  refine s_iload_n 1 dX10_sheet_69 rfl rfl ?_
  refine s_iload_n 2 dX10_sheet_70 rfl rfl ?_
  refine s_gd fun h3 => ?_
  refine s_iast (n := 4) rfl h3 dX10_sheet_71 ?_
  refine s_letM fun M4 => ?_
  refine s_aload_n 0 dX10_sheet_72 rfl rfl ?_
  refine g_X10_49 (q := 14) rfl rfl dX10_sheet_73 ?_
  refine s_iload_n 1 dX10_sheet_76 rfl rfl ?_
  refine s_iload_n 2 dX10_sheet_77 rfl rfl ?_
  refine s_ifne (tgt := 85) dX10_sheet_78 (by decide) ?_ ?_
  · refine s_iload_n 3 dX10_sheet_85 rfl rfl ?_
    exact s_sub [0, 1] rfl (tX10_sheet_B86 l G v1 v3 v1 M4)
  · refine s_iconst (v := 0) dX10_sheet_81 ci_0 ?_
    refine s_goto (tgt := 86) dX10_sheet_82 (by decide) ?_
    exact s_sub [0, 1] rfl (tX10_sheet_B86 l G v1 (0 : Int32) v1 M4)
def fX10_sheet_B49 (v1 : Int32) (v2 : Int32) (v3 : Int32) (M : Mm) : Option (Int32 × Mm) :=
  if v2 = 0 then (fX10_sheet_B65 v1 v2 v3 M)
  else if v3 ≤ (24 : Int32) then (fX10_sheet_B65 v1 v2 v3 M)
  else bd (fX10_error (1 : Int32) M) fun r9 M10 =>
  some (r9, M10)
theorem tX10_sheet_B49 (l : Launch) (G : Gx) (v1 : Int32) (v2 : Int32) (v3 : Int32) (M : Mm) : Sim cQi l layM G 3 cX10_sheet RX10 5 (some .int) 49 [(0, rf G 0), (1, .int v1), (2, .int v2), (3, .int v3)] [] M (fX10_sheet_B49 v1 v2 v3 M) := by
  unfold fX10_sheet_B49
  refine s_iload_n 2 dX10_sheet_49 rfl rfl ?_
  refine s_ifeq (tgt := 65) dX10_sheet_50 (by decide) ?_ ?_
  · exact s_sub [0, 1, 2, 3] rfl (tX10_sheet_B65 l G v1 v2 v3 M)
  · refine s_iload_n 3 dX10_sheet_53 rfl rfl ?_
    refine s_bipush (v := 24) dX10_sheet_54 cb_24 ?_
    refine s_icmple (tgt := 65) dX10_sheet_56 (by decide) ?_ ?_
    · exact s_sub [0, 1, 2, 3] rfl (tX10_sheet_B65 l G v1 v2 v3 M)
    · refine s_aload_n 0 dX10_sheet_59 rfl rfl ?_
      refine s_iconst (v := 1) dX10_sheet_60 ci_1 ?_
      refine s_call_i (s_runV (ci := 10) (rest := []) rfl rfl (mX10_error l G (1 : Int32) M) ok_X10_error k_X10_75 rfl rfl rfl rfl dX10_sheet_61) fun r9 M10 => ?_
      exact s_iret rfl dX10_sheet_64
def fX10_sheet_B35 (v1 : Int32) (v2 : Int32) (v3 : Int32) (M : Mm) : Option (Int32 × Mm) :=
  if v2 = 0 then (fX10_sheet_B49 v1 v2 v3 M)
  else if 0 ≤ v3 then (fX10_sheet_B49 v1 v2 v3 M)
  else bd (fX10_error (3 : Int32) M) fun r11 M12 =>
  some (r11, M12)
theorem tX10_sheet_B35 (l : Launch) (G : Gx) (v1 : Int32) (v2 : Int32) (v3 : Int32) (M : Mm) : Sim cQi l layM G 3 cX10_sheet RX10 5 (some .int) 35 [(0, rf G 0), (1, .int v1), (2, .int v2), (3, .int v3)] [] M (fX10_sheet_B35 v1 v2 v3 M) := by
  unfold fX10_sheet_B35
  refine s_iload_n 2 dX10_sheet_35 rfl rfl ?_
  refine s_ifeq (tgt := 49) dX10_sheet_36 (by decide) ?_ ?_
  · exact s_sub [0, 1, 2, 3] rfl (tX10_sheet_B49 l G v1 v2 v3 M)
  · refine s_iload_n 3 dX10_sheet_39 rfl rfl ?_
    refine s_ifge (tgt := 49) dX10_sheet_40 (by decide) ?_ ?_
    · exact s_sub [0, 1, 2, 3] rfl (tX10_sheet_B49 l G v1 v2 v3 M)
    · refine s_aload_n 0 dX10_sheet_43 rfl rfl ?_
      refine s_iconst (v := 3) dX10_sheet_44 ci_3 ?_
      refine s_call_i (s_runV (ci := 10) (rest := []) rfl rfl (mX10_error l G (3 : Int32) M) ok_X10_error k_X10_75 rfl rfl rfl rfl dX10_sheet_45) fun r11 M12 => ?_
      exact s_iret rfl dX10_sheet_48
def fX10_sheet_B29 (M : Mm) : Option (Int32 × Mm) :=
  bd (fX10_error (1 : Int32) M) fun r13 M14 =>
  some (r13, M14)
theorem tX10_sheet_B29 (l : Launch) (G : Gx) (M : Mm) : Sim cQi l layM G 3 cX10_sheet RX10 5 (some .int) 29 [(0, rf G 0)] [] M (fX10_sheet_B29 M) := by
  unfold fX10_sheet_B29
  refine s_aload_n 0 dX10_sheet_29 rfl rfl ?_
  refine s_iconst (v := 1) dX10_sheet_30 ci_1 ?_
  refine s_call_i (s_runV (ci := 10) (rest := []) rfl rfl (mX10_error l G (1 : Int32) M) ok_X10_error k_X10_75 rfl rfl rfl rfl dX10_sheet_31) fun r13 M14 => ?_
  exact s_iret rfl dX10_sheet_34
def fX10_sheet (a1 : Int32) (a2 : Int32) (a3 : Int32) (M : Mm) : Option (Int32 × Mm) :=
  bd (fX10_isSheet a1 M) fun r1 M2 =>
  if r1 = true then (if a2 = 0 then (fX10_sheet_B35 a1 a2 a3 M2)
  else if a2 = (8 : Int32) then (fX10_sheet_B35 a1 a2 a3 M2)
  else if a2 = (16 : Int32) then (fX10_sheet_B35 a1 a2 a3 M2)
  else if a2 = (32 : Int32) then (fX10_sheet_B35 a1 a2 a3 M2)
  else fX10_sheet_B29 M2)
  else fX10_sheet_B29 M2
theorem mX10_sheet (l : Launch) (G : Gx) (a1 : Int32) (a2 : Int32) (a3 : Int32) (M : Mm) : Mt cQi l layM G 3 yX10_sheet cX10_sheet 5 (some .int) [rf G 0, .int a1, .int a2, .int a3] M (fX10_sheet a1 a2 a3 M) := by
  refine Mt.of2 (own := RX10) (lv := [(0, rf G 0), (1, .int a1), (2, .int a2), (3, .int a3)]) rfl (by decide +kernel) rfl rfl ?_
  unfold fX10_sheet
  refine s_iload_n 1 dX10_sheet_0 rfl rfl ?_
  refine s_call_z (s_runS (rest := []) (mX10_isSheet l G a1 M) ok_X10_isSheet k_X10_266 rfl rfl rfl rfl dX10_sheet_1) fun r1 M2 => ?_
  refine s_ifeqB (tgt := 29) dX10_sheet_4 (by decide) ?_ ?_
  · exact s_sub [0] rfl (tX10_sheet_B29 l G M2)
  · refine s_iload_n 2 dX10_sheet_7 rfl rfl ?_
    refine s_ifeq (tgt := 35) dX10_sheet_8 (by decide) ?_ ?_
    · exact s_sub [0, 1, 2, 3] rfl (tX10_sheet_B35 l G a1 a2 a3 M2)
    · refine s_iload_n 2 dX10_sheet_11 rfl rfl ?_
      refine s_bipush (v := 8) dX10_sheet_12 cb_8 ?_
      refine s_icmpeq (tgt := 35) dX10_sheet_14 (by decide) ?_ ?_
      · exact s_sub [0, 1, 2, 3] rfl (tX10_sheet_B35 l G a1 a2 a3 M2)
      · refine s_iload_n 2 dX10_sheet_17 rfl rfl ?_
        refine s_bipush (v := 16) dX10_sheet_18 cb_16 ?_
        refine s_icmpeq (tgt := 35) dX10_sheet_20 (by decide) ?_ ?_
        · exact s_sub [0, 1, 2, 3] rfl (tX10_sheet_B35 l G a1 a2 a3 M2)
        · refine s_iload_n 2 dX10_sheet_23 rfl rfl ?_
          refine s_bipush (v := 32) dX10_sheet_24 cb_32 ?_
          refine s_icmpeq (tgt := 35) dX10_sheet_26 (by decide) ?_ ?_
          · exact s_sub [0, 1, 2, 3] rfl (tX10_sheet_B35 l G a1 a2 a3 M2)
          · exact s_sub [0] rfl (tX10_sheet_B29 l G M2)
theorem dX10_put_0 : decode cX10_put 0 = .ok (.iload_n 1, 1) := by decide +kernel
theorem dX10_put_1 : decode cX10_put 1 = .ok (.invokestatic 266, 3) := by decide +kernel
theorem dX10_put_4 : decode cX10_put 4 = .ok (.ifCond .ne 9, 3) := by decide +kernel
theorem dX10_put_7 : decode cX10_put 7 = .ok (.aload_n 0, 1) := by decide +kernel
theorem dX10_put_8 : decode cX10_put 8 = .ok (.iconst 1, 1) := by decide +kernel
theorem dX10_put_9 : decode cX10_put 9 = .ok (.invokevirtual 75, 3) := by decide +kernel
theorem dX10_put_12 : decode cX10_put 12 = .ok (.ireturn, 1) := by decide +kernel
theorem dX10_put_13 : decode cX10_put 13 = .ok (.aload_n 0, 1) := by decide +kernel
theorem dX10_put_14 : decode cX10_put 14 = .ok (.getfield 46, 3) := by decide +kernel
theorem dX10_put_17 : decode cX10_put 17 = .ok (.iload_n 1, 1) := by decide +kernel
theorem dX10_put_18 : decode cX10_put 18 = .ok (.iaload, 1) := by decide +kernel
theorem dX10_put_19 : decode cX10_put 19 = .ok (.ifCond .ne 9, 3) := by decide +kernel
theorem dX10_put_22 : decode cX10_put 22 = .ok (.aload_n 0, 1) := by decide +kernel
theorem dX10_put_23 : decode cX10_put 23 = .ok (.iconst 2, 1) := by decide +kernel
theorem dX10_put_24 : decode cX10_put 24 = .ok (.invokevirtual 75, 3) := by decide +kernel
theorem dX10_put_27 : decode cX10_put 27 = .ok (.ireturn, 1) := by decide +kernel
theorem dX10_put_28 : decode cX10_put 28 = .ok (.iload_n 2, 1) := by decide +kernel
theorem dX10_put_29 : decode cX10_put 29 = .ok (.iconst 0, 1) := by decide +kernel
theorem dX10_put_30 : decode cX10_put 30 = .ok (.aload_n 0, 1) := by decide +kernel
theorem dX10_put_31 : decode cX10_put 31 = .ok (.getfield 49, 3) := by decide +kernel
theorem dX10_put_34 : decode cX10_put 34 = .ok (.iload_n 1, 1) := by decide +kernel
theorem dX10_put_35 : decode cX10_put 35 = .ok (.iaload, 1) := by decide +kernel
theorem dX10_put_36 : decode cX10_put 36 = .ok (.iconst 1, 1) := by decide +kernel
theorem dX10_put_37 : decode cX10_put 37 = .ok (.isub, 1) := by decide +kernel
theorem dX10_put_38 : decode cX10_put 38 = .ok (.invokestatic 59, 3) := by decide +kernel
theorem dX10_put_41 : decode cX10_put 41 = .ok (.ifCond .ne 9, 3) := by decide +kernel
theorem dX10_put_44 : decode cX10_put 44 = .ok (.aload_n 0, 1) := by decide +kernel
theorem dX10_put_45 : decode cX10_put 45 = .ok (.iconst 1, 1) := by decide +kernel
theorem dX10_put_46 : decode cX10_put 46 = .ok (.invokevirtual 75, 3) := by decide +kernel
theorem dX10_put_49 : decode cX10_put 49 = .ok (.ireturn, 1) := by decide +kernel
theorem dX10_put_50 : decode cX10_put 50 = .ok (.bipush 32, 2) := by decide +kernel
theorem dX10_put_52 : decode cX10_put 52 = .ok (.aload_n 0, 1) := by decide +kernel
theorem dX10_put_53 : decode cX10_put 53 = .ok (.getfield 46, 3) := by decide +kernel
theorem dX10_put_56 : decode cX10_put 56 = .ok (.iload_n 1, 1) := by decide +kernel
theorem dX10_put_57 : decode cX10_put 57 = .ok (.iaload, 1) := by decide +kernel
theorem dX10_put_58 : decode cX10_put 58 = .ok (.isub, 1) := by decide +kernel
theorem dX10_put_59 : decode cX10_put 59 = .ok (.istore 4, 2) := by decide +kernel
theorem dX10_put_61 : decode cX10_put 61 = .ok (.aload_n 0, 1) := by decide +kernel
theorem dX10_put_62 : decode cX10_put 62 = .ok (.getfield 52, 3) := by decide +kernel
theorem dX10_put_65 : decode cX10_put 65 = .ok (.bipush 24, 2) := by decide +kernel
theorem dX10_put_67 : decode cX10_put 67 = .ok (.iload_n 1, 1) := by decide +kernel
theorem dX10_put_68 : decode cX10_put 68 = .ok (.imul, 1) := by decide +kernel
theorem dX10_put_69 : decode cX10_put 69 = .ok (.iload_n 2, 1) := by decide +kernel
theorem dX10_put_70 : decode cX10_put 70 = .ok (.iadd, 1) := by decide +kernel
theorem dX10_put_71 : decode cX10_put 71 = .ok (.iload_n 3, 1) := by decide +kernel
theorem dX10_put_72 : decode cX10_put 72 = .ok (.iload 4, 2) := by decide +kernel
theorem dX10_put_74 : decode cX10_put 74 = .ok (.ishl, 1) := by decide +kernel
theorem dX10_put_75 : decode cX10_put 75 = .ok (.iload 4, 2) := by decide +kernel
theorem dX10_put_77 : decode cX10_put 77 = .ok (.ishr, 1) := by decide +kernel
theorem dX10_put_78 : decode cX10_put 78 = .ok (.iastore, 1) := by decide +kernel
theorem dX10_put_79 : decode cX10_put 79 = .ok (.iconst 1, 1) := by decide +kernel
theorem dX10_put_80 : decode cX10_put 80 = .ok (.ireturn, 1) := by decide +kernel
def fX10_put (a1 : Int32) (a2 : Int32) (a3 : Int32) (M : Mm) : Option (Int32 × Mm) :=
  bd (fX10_isSheet a1 M) fun r1 M2 =>
  if r1 = true then (gd (inb a1 4) <|
  if (M2 13 (ix a1)) = 0 then (bd (fX10_error (2 : Int32) M2) fun r13 M14 =>
  some (r13, M14))
  else bd (fX10_in a2 (0 : Int32) ((M2 14 (ix a1)) - (1 : Int32)) M2) fun r6 M7 =>
  if r6 = true then (lt ((32 : Int32) - (M7 13 (ix a1))) fun x10 =>
  gd (inb (((24 : Int32) * a1) + a2) 96) <|
  lt (wr M7 15 (ix (((24 : Int32) * a1) + a2)) ((a3 <<< (x10 &&& 31)) >>> (x10 &&& 31))) fun M12 =>
  some ((1 : Int32), M12))
  else bd (fX10_error (1 : Int32) M7) fun r8 M9 =>
  some (r8, M9))
  else bd (fX10_error (1 : Int32) M2) fun r3 M4 =>
  some (r3, M4)
theorem mX10_put (l : Launch) (G : Gx) (a1 : Int32) (a2 : Int32) (a3 : Int32) (M : Mm) : Mt cQi l layM G 3 yX10_put cX10_put 5 (some .int) [rf G 0, .int a1, .int a2, .int a3] M (fX10_put a1 a2 a3 M) := by
  refine Mt.of2 (own := RX10) (lv := [(0, rf G 0), (1, .int a1), (2, .int a2), (3, .int a3)]) rfl (by decide +kernel) rfl rfl ?_
  unfold fX10_put
  refine s_iload_n 1 dX10_put_0 rfl rfl ?_
  refine s_call_z (s_runS (rest := []) (mX10_isSheet l G a1 M) ok_X10_isSheet k_X10_266 rfl rfl rfl rfl dX10_put_1) fun r1 M2 => ?_
  refine s_ifneB (tgt := 13) dX10_put_4 (by decide) ?_ ?_
  · refine s_aload_n 0 dX10_put_13 rfl rfl ?_
    refine g_X10_46 (q := 13) rfl rfl dX10_put_14 ?_
    refine s_iload_n 1 dX10_put_17 rfl rfl ?_
    refine s_gd fun h5 => ?_
    refine s_iald (n := 4) rfl h5 dX10_put_18 ?_
    refine s_ifne (tgt := 28) dX10_put_19 (by decide) ?_ ?_
    · refine s_iload_n 2 dX10_put_28 rfl rfl ?_
      refine s_iconst (v := 0) dX10_put_29 ci_0 ?_
      refine s_aload_n 0 dX10_put_30 rfl rfl ?_
      refine g_X10_49 (q := 14) rfl rfl dX10_put_31 ?_
      refine s_iload_n 1 dX10_put_34 rfl rfl ?_
      refine s_iald (n := 4) rfl h5 dX10_put_35 ?_
      refine s_iconst (v := 1) dX10_put_36 ci_1 ?_
      refine s_isub dX10_put_37 ?_
      refine s_call_z (s_runS (rest := []) (mX10_in l G a2 (0 : Int32) ((M2 14 (ix a1)) - (1 : Int32)) M2) ok_X10_in k_X10_59 rfl rfl rfl rfl dX10_put_38) fun r6 M7 => ?_
      refine s_ifneB (tgt := 50) dX10_put_41 (by decide) ?_ ?_
      · refine s_bipush (v := 32) dX10_put_50 cb_32 ?_
        refine s_aload_n 0 dX10_put_52 rfl rfl ?_
        refine g_X10_46 (q := 13) rfl rfl dX10_put_53 ?_
        refine s_iload_n 1 dX10_put_56 rfl rfl ?_
        refine s_iald (n := 4) rfl h5 dX10_put_57 ?_
        refine s_isub dX10_put_58 ?_
        refine s_leti fun x10 => ?_
        refine s_istore (lv' := [(4, .int x10), (0, rf G 0), (1, .int a1), (2, .int a2), (3, .int a3)]) dX10_put_59 rfl rfl ?_
        refine s_aload_n 1 dX10_put_61 rfl rfl ?_
        refine g_X10_52 (q := 15) rfl rfl dX10_put_62 ?_
        refine s_bipush (v := 24) dX10_put_65 cb_24 ?_
        refine s_iload_n 2 dX10_put_67 rfl rfl ?_
        refine s_imul dX10_put_68 ?_
        refine s_iload_n 3 dX10_put_69 rfl rfl ?_
        refine s_iadd dX10_put_70 ?_
        refine s_iload_n 4 dX10_put_71 rfl rfl ?_
        refine s_iload 0 dX10_put_72 rfl ?_
        refine s_ishl dX10_put_74 ?_
        refine s_iload 0 dX10_put_75 rfl ?_
        refine s_ishr dX10_put_77 ?_
        refine s_gd fun h11 => ?_
        refine s_iast (n := 96) rfl h11 dX10_put_78 ?_
        refine s_letM fun M12 => ?_
        refine s_iconst (v := 1) dX10_put_79 ci_1 ?_
        exact s_iret rfl dX10_put_80
      · refine s_aload_n 0 dX10_put_44 rfl rfl ?_
        refine s_iconst (v := 1) dX10_put_45 ci_1 ?_
        refine s_call_i (s_runV (ci := 10) (rest := []) rfl rfl (mX10_error l G (1 : Int32) M7) ok_X10_error k_X10_75 rfl rfl rfl rfl dX10_put_46) fun r8 M9 => ?_
        exact s_iret rfl dX10_put_49
    · refine s_aload_n 0 dX10_put_22 rfl rfl ?_
      refine s_iconst (v := 2) dX10_put_23 ci_2 ?_
      refine s_call_i (s_runV (ci := 10) (rest := []) rfl rfl (mX10_error l G (2 : Int32) M2) ok_X10_error k_X10_75 rfl rfl rfl rfl dX10_put_24) fun r13 M14 => ?_
      exact s_iret rfl dX10_put_27
  · refine s_aload_n 0 dX10_put_7 rfl rfl ?_
    refine s_iconst (v := 1) dX10_put_8 ci_1 ?_
    refine s_call_i (s_runV (ci := 10) (rest := []) rfl rfl (mX10_error l G (1 : Int32) M2) ok_X10_error k_X10_75 rfl rfl rfl rfl dX10_put_9) fun r3 M4 => ?_
    exact s_iret rfl dX10_put_12
theorem dX10_move_0 : decode cX10_move 0 = .ok (.iload_n 1, 1) := by decide +kernel
theorem dX10_move_1 : decode cX10_move 1 = .ok (.invokestatic 266, 3) := by decide +kernel
theorem dX10_move_4 : decode cX10_move 4 = .ok (.ifCond .eq 10, 3) := by decide +kernel
theorem dX10_move_7 : decode cX10_move 7 = .ok (.iload_n 3, 1) := by decide +kernel
theorem dX10_move_8 : decode cX10_move 8 = .ok (.invokestatic 266, 3) := by decide +kernel
theorem dX10_move_11 : decode cX10_move 11 = .ok (.ifCond .ne 9, 3) := by decide +kernel
theorem dX10_move_14 : decode cX10_move 14 = .ok (.aload_n 0, 1) := by decide +kernel
theorem dX10_move_15 : decode cX10_move 15 = .ok (.iconst 1, 1) := by decide +kernel
theorem dX10_move_16 : decode cX10_move 16 = .ok (.invokevirtual 75, 3) := by decide +kernel
theorem dX10_move_19 : decode cX10_move 19 = .ok (.ireturn, 1) := by decide +kernel
theorem dX10_move_20 : decode cX10_move 20 = .ok (.aload_n 0, 1) := by decide +kernel
theorem dX10_move_21 : decode cX10_move 21 = .ok (.getfield 46, 3) := by decide +kernel
theorem dX10_move_24 : decode cX10_move 24 = .ok (.iload_n 1, 1) := by decide +kernel
theorem dX10_move_25 : decode cX10_move 25 = .ok (.iaload, 1) := by decide +kernel
theorem dX10_move_26 : decode cX10_move 26 = .ok (.ifCond .eq 12, 3) := by decide +kernel
theorem dX10_move_29 : decode cX10_move 29 = .ok (.aload_n 0, 1) := by decide +kernel
theorem dX10_move_30 : decode cX10_move 30 = .ok (.getfield 46, 3) := by decide +kernel
theorem dX10_move_33 : decode cX10_move 33 = .ok (.iload_n 3, 1) := by decide +kernel
theorem dX10_move_34 : decode cX10_move 34 = .ok (.iaload, 1) := by decide +kernel
theorem dX10_move_35 : decode cX10_move 35 = .ok (.ifCond .ne 9, 3) := by decide +kernel
theorem dX10_move_38 : decode cX10_move 38 = .ok (.aload_n 0, 1) := by decide +kernel
theorem dX10_move_39 : decode cX10_move 39 = .ok (.iconst 2, 1) := by decide +kernel
theorem dX10_move_40 : decode cX10_move 40 = .ok (.invokevirtual 75, 3) := by decide +kernel
theorem dX10_move_43 : decode cX10_move 43 = .ok (.ireturn, 1) := by decide +kernel
theorem dX10_move_44 : decode cX10_move 44 = .ok (.aload_n 0, 1) := by decide +kernel
theorem dX10_move_45 : decode cX10_move 45 = .ok (.getfield 46, 3) := by decide +kernel
theorem dX10_move_48 : decode cX10_move 48 = .ok (.iload_n 1, 1) := by decide +kernel
theorem dX10_move_49 : decode cX10_move 49 = .ok (.iaload, 1) := by decide +kernel
theorem dX10_move_50 : decode cX10_move 50 = .ok (.aload_n 0, 1) := by decide +kernel
theorem dX10_move_51 : decode cX10_move 51 = .ok (.getfield 46, 3) := by decide +kernel
theorem dX10_move_54 : decode cX10_move 54 = .ok (.iload_n 3, 1) := by decide +kernel
theorem dX10_move_55 : decode cX10_move 55 = .ok (.iaload, 1) := by decide +kernel
theorem dX10_move_56 : decode cX10_move 56 = .ok (.if_icmp .eq 9, 3) := by decide +kernel
theorem dX10_move_59 : decode cX10_move 59 = .ok (.aload_n 0, 1) := by decide +kernel
theorem dX10_move_60 : decode cX10_move 60 = .ok (.iconst 5, 1) := by decide +kernel
theorem dX10_move_61 : decode cX10_move 61 = .ok (.invokevirtual 75, 3) := by decide +kernel
theorem dX10_move_64 : decode cX10_move 64 = .ok (.ireturn, 1) := by decide +kernel
theorem dX10_move_65 : decode cX10_move 65 = .ok (.iload 5, 2) := by decide +kernel
theorem dX10_move_67 : decode cX10_move 67 = .ok (.ifCond .lt 39, 3) := by decide +kernel
theorem dX10_move_70 : decode cX10_move 70 = .ok (.iload_n 2, 1) := by decide +kernel
theorem dX10_move_71 : decode cX10_move 71 = .ok (.ifCond .lt 35, 3) := by decide +kernel
theorem dX10_move_74 : decode cX10_move 74 = .ok (.iload 4, 2) := by decide +kernel
theorem dX10_move_76 : decode cX10_move 76 = .ok (.ifCond .lt 30, 3) := by decide +kernel
theorem dX10_move_79 : decode cX10_move 79 = .ok (.iload_n 2, 1) := by decide +kernel
theorem dX10_move_80 : decode cX10_move 80 = .ok (.aload_n 0, 1) := by decide +kernel
theorem dX10_move_81 : decode cX10_move 81 = .ok (.getfield 49, 3) := by decide +kernel
theorem dX10_move_84 : decode cX10_move 84 = .ok (.iload_n 1, 1) := by decide +kernel
theorem dX10_move_85 : decode cX10_move 85 = .ok (.iaload, 1) := by decide +kernel
theorem dX10_move_86 : decode cX10_move 86 = .ok (.iload 5, 2) := by decide +kernel
theorem dX10_move_88 : decode cX10_move 88 = .ok (.isub, 1) := by decide +kernel
theorem dX10_move_89 : decode cX10_move 89 = .ok (.if_icmp .gt 17, 3) := by decide +kernel
theorem dX10_move_92 : decode cX10_move 92 = .ok (.iload 4, 2) := by decide +kernel
theorem dX10_move_94 : decode cX10_move 94 = .ok (.aload_n 0, 1) := by decide +kernel
theorem dX10_move_95 : decode cX10_move 95 = .ok (.getfield 49, 3) := by decide +kernel
theorem dX10_move_98 : decode cX10_move 98 = .ok (.iload_n 3, 1) := by decide +kernel
theorem dX10_move_99 : decode cX10_move 99 = .ok (.iaload, 1) := by decide +kernel
theorem dX10_move_100 : decode cX10_move 100 = .ok (.iload 5, 2) := by decide +kernel
theorem dX10_move_102 : decode cX10_move 102 = .ok (.isub, 1) := by decide +kernel
theorem dX10_move_103 : decode cX10_move 103 = .ok (.if_icmp .le 9, 3) := by decide +kernel
theorem dX10_move_106 : decode cX10_move 106 = .ok (.aload_n 0, 1) := by decide +kernel
theorem dX10_move_107 : decode cX10_move 107 = .ok (.iconst 1, 1) := by decide +kernel
theorem dX10_move_108 : decode cX10_move 108 = .ok (.invokevirtual 75, 3) := by decide +kernel
theorem dX10_move_111 : decode cX10_move 111 = .ok (.ireturn, 1) := by decide +kernel
theorem dX10_move_112 : decode cX10_move 112 = .ok (.iconst 0, 1) := by decide +kernel
theorem dX10_move_113 : decode cX10_move 113 = .ok (.istore 6, 2) := by decide +kernel
theorem dX10_move_115 : decode cX10_move 115 = .ok (.iload 6, 2) := by decide +kernel
theorem dX10_move_117 : decode cX10_move 117 = .ok (.iload 5, 2) := by decide +kernel
theorem dX10_move_119 : decode cX10_move 119 = .ok (.if_icmp .ge 30, 3) := by decide +kernel
theorem dX10_move_122 : decode cX10_move 122 = .ok (.aload_n 0, 1) := by decide +kernel
theorem dX10_move_123 : decode cX10_move 123 = .ok (.getfield 55, 3) := by decide +kernel
theorem dX10_move_126 : decode cX10_move 126 = .ok (.iload 6, 2) := by decide +kernel
theorem dX10_move_128 : decode cX10_move 128 = .ok (.aload_n 0, 1) := by decide +kernel
theorem dX10_move_129 : decode cX10_move 129 = .ok (.getfield 52, 3) := by decide +kernel
theorem dX10_move_132 : decode cX10_move 132 = .ok (.bipush 24, 2) := by decide +kernel
theorem dX10_move_134 : decode cX10_move 134 = .ok (.iload_n 1, 1) := by decide +kernel
theorem dX10_move_135 : decode cX10_move 135 = .ok (.imul, 1) := by decide +kernel
theorem dX10_move_136 : decode cX10_move 136 = .ok (.iload_n 2, 1) := by decide +kernel
theorem dX10_move_137 : decode cX10_move 137 = .ok (.iadd, 1) := by decide +kernel
theorem dX10_move_138 : decode cX10_move 138 = .ok (.iload 6, 2) := by decide +kernel
theorem dX10_move_140 : decode cX10_move 140 = .ok (.iadd, 1) := by decide +kernel
theorem dX10_move_141 : decode cX10_move 141 = .ok (.iaload, 1) := by decide +kernel
theorem dX10_move_142 : decode cX10_move 142 = .ok (.iastore, 1) := by decide +kernel
theorem dX10_move_143 : decode cX10_move 143 = .ok (.iinc 6 1, 3) := by decide +kernel
theorem dX10_move_146 : decode cX10_move 146 = .ok (.goto (-31), 3) := by decide +kernel
theorem dX10_move_149 : decode cX10_move 149 = .ok (.iconst 0, 1) := by decide +kernel
theorem dX10_move_150 : decode cX10_move 150 = .ok (.istore 6, 2) := by decide +kernel
theorem dX10_move_152 : decode cX10_move 152 = .ok (.iload 6, 2) := by decide +kernel
theorem dX10_move_154 : decode cX10_move 154 = .ok (.iload 5, 2) := by decide +kernel
theorem dX10_move_156 : decode cX10_move 156 = .ok (.if_icmp .ge 31, 3) := by decide +kernel
theorem dX10_move_159 : decode cX10_move 159 = .ok (.aload_n 0, 1) := by decide +kernel
theorem dX10_move_160 : decode cX10_move 160 = .ok (.getfield 52, 3) := by decide +kernel
theorem dX10_move_163 : decode cX10_move 163 = .ok (.bipush 24, 2) := by decide +kernel
theorem dX10_move_165 : decode cX10_move 165 = .ok (.iload_n 3, 1) := by decide +kernel
theorem dX10_move_166 : decode cX10_move 166 = .ok (.imul, 1) := by decide +kernel
theorem dX10_move_167 : decode cX10_move 167 = .ok (.iload 4, 2) := by decide +kernel
theorem dX10_move_169 : decode cX10_move 169 = .ok (.iadd, 1) := by decide +kernel
theorem dX10_move_170 : decode cX10_move 170 = .ok (.iload 6, 2) := by decide +kernel
theorem dX10_move_172 : decode cX10_move 172 = .ok (.iadd, 1) := by decide +kernel
theorem dX10_move_173 : decode cX10_move 173 = .ok (.aload_n 0, 1) := by decide +kernel
theorem dX10_move_174 : decode cX10_move 174 = .ok (.getfield 55, 3) := by decide +kernel
theorem dX10_move_177 : decode cX10_move 177 = .ok (.iload 6, 2) := by decide +kernel
theorem dX10_move_179 : decode cX10_move 179 = .ok (.iaload, 1) := by decide +kernel
theorem dX10_move_180 : decode cX10_move 180 = .ok (.iastore, 1) := by decide +kernel
theorem dX10_move_181 : decode cX10_move 181 = .ok (.iinc 6 1, 3) := by decide +kernel
theorem dX10_move_184 : decode cX10_move 184 = .ok (.goto (-32), 3) := by decide +kernel
theorem dX10_move_187 : decode cX10_move 187 = .ok (.iload 5, 2) := by decide +kernel
theorem dX10_move_189 : decode cX10_move 189 = .ok (.ireturn, 1) := by decide +kernel
def fX10_move_B14 (M : Mm) : Option (Int32 × Mm) :=
  bd (fX10_error (1 : Int32) M) fun r5 M6 =>
  some (r5, M6)
theorem tX10_move_B14 (l : Launch) (G : Gx) (M : Mm) : Sim cQi l layM G 3 cX10_move RX10 7 (some .int) 14 [(0, rf G 0)] [] M (fX10_move_B14 M) := by
  unfold fX10_move_B14
  refine s_aload_n 0 dX10_move_14 rfl rfl ?_
  refine s_iconst (v := 1) dX10_move_15 ci_1 ?_
  refine s_call_i (s_runV (ci := 10) (rest := []) rfl rfl (mX10_error l G (1 : Int32) M) ok_X10_error k_X10_75 rfl rfl rfl rfl dX10_move_16) fun r5 M6 => ?_
  exact s_iret rfl dX10_move_19
def fX10_move_B38 (M : Mm) : Option (Int32 × Mm) :=
  bd (fX10_error (2 : Int32) M) fun r8 M9 =>
  some (r8, M9)
theorem tX10_move_B38 (l : Launch) (G : Gx) (M : Mm) : Sim cQi l layM G 3 cX10_move RX10 7 (some .int) 38 [(0, rf G 0)] [] M (fX10_move_B38 M) := by
  unfold fX10_move_B38
  refine s_aload_n 0 dX10_move_38 rfl rfl ?_
  refine s_iconst (v := 2) dX10_move_39 ci_2 ?_
  refine s_call_i (s_runV (ci := 10) (rest := []) rfl rfl (mX10_error l G (2 : Int32) M) ok_X10_error k_X10_75 rfl rfl rfl rfl dX10_move_40) fun r8 M9 => ?_
  exact s_iret rfl dX10_move_43
def fX10_move_B106 (M : Mm) : Option (Int32 × Mm) :=
  bd (fX10_error (1 : Int32) M) fun r11 M12 =>
  some (r11, M12)
theorem tX10_move_B106 (l : Launch) (G : Gx) (M : Mm) : Sim cQi l layM G 3 cX10_move RX10 7 (some .int) 106 [(0, rf G 0)] [] M (fX10_move_B106 M) := by
  unfold fX10_move_B106
  refine s_aload_n 0 dX10_move_106 rfl rfl ?_
  refine s_iconst (v := 1) dX10_move_107 ci_1 ?_
  refine s_call_i (s_runV (ci := 10) (rest := []) rfl rfl (mX10_error l G (1 : Int32) M) ok_X10_error k_X10_75 rfl rfl rfl rfl dX10_move_108) fun r11 M12 => ?_
  exact s_iret rfl dX10_move_111
def fX10_move_B187 (v5 : Int32) (M : Mm) : Option (Int32 × Mm) :=
  some (v5, M)
theorem tX10_move_B187 (l : Launch) (G : Gx) (v5 : Int32) (M : Mm) : Sim cQi l layM G 3 cX10_move RX10 7 (some .int) 187 [(5, .int v5)] [] M (fX10_move_B187 v5 M) := by
  unfold fX10_move_B187
  refine s_iload 0 dX10_move_187 rfl ?_
  exact s_iret rfl dX10_move_189
def fX10_move_L152b (v3 : Int32) (v4 : Int32) (v5 : Int32) (q152 : Int32 → Mm → Option (Int32 × Mm)) (v6 : Int32) (M : Mm) : Option (Int32 × Mm) :=
  if v5 ≤ v6 then (fX10_move_B187 v5 M)
  else gd (inb v6 24) <|
  gd (inb ((((24 : Int32) * v3) + v4) + v6) 96) <|
  lt (wr M 15 (ix ((((24 : Int32) * v3) + v4) + v6)) (M 16 (ix v6))) fun M15 =>
  q152 (v6 + 1) M15
def fX10_move_L152 (v3 : Int32) (v4 : Int32) (v5 : Int32) : Nat → Int32 → Mm → Option (Int32 × Mm)
  | 0 => fun _ _ => none
  | n + 1 => fX10_move_L152b v3 v4 v5 (fX10_move_L152 v3 v4 v5 n)
theorem tX10_move_L152b (l : Launch) (G : Gx) (v3 : Int32) (v4 : Int32) (v5 : Int32) (q152 : Int32 → Mm → Option (Int32 × Mm)) (hq152 : ∀ (v6 : Int32) (M : Mm), Sim cQi l layM G 3 cX10_move RX10 7 (some .int) 152 [(6, .int v6), (0, rf G 0), (3, .int v3), (4, .int v4), (5, .int v5)] [] M (q152 v6 M)) (v6 : Int32) (M : Mm) : Sim cQi l layM G 3 cX10_move RX10 7 (some .int) 152 [(6, .int v6), (0, rf G 0), (3, .int v3), (4, .int v4), (5, .int v5)] [] M (fX10_move_L152b v3 v4 v5 q152 v6 M) := by
  unfold fX10_move_L152b
  refine s_iload 0 dX10_move_152 rfl ?_
  refine s_iload 4 dX10_move_154 rfl ?_
  refine s_icmpge (tgt := 187) dX10_move_156 (by decide) ?_ ?_
  · exact s_sub [4] rfl (tX10_move_B187 l G v5 M)
  · refine s_aload_n 1 dX10_move_159 rfl rfl ?_
    refine g_X10_52 (q := 15) rfl rfl dX10_move_160 ?_
    refine s_bipush (v := 24) dX10_move_163 cb_24 ?_
    refine s_iload_n 2 dX10_move_165 rfl rfl ?_
    refine s_imul dX10_move_166 ?_
    refine s_iload 3 dX10_move_167 rfl ?_
    refine s_iadd dX10_move_169 ?_
    refine s_iload 0 dX10_move_170 rfl ?_
    refine s_iadd dX10_move_172 ?_
    refine s_aload_n 1 dX10_move_173 rfl rfl ?_
    refine g_X10_55 (q := 16) rfl rfl dX10_move_174 ?_
    refine s_iload 0 dX10_move_177 rfl ?_
    refine s_gd fun h13 => ?_
    refine s_iald (n := 24) rfl h13 dX10_move_179 ?_
    refine s_gd fun h14 => ?_
    refine s_iast (n := 96) rfl h14 dX10_move_180 ?_
    refine s_letM fun M15 => ?_
    refine s_iinc (k := 0) (lv' := [(6, .int (v6 + 1)), (0, rf G 0), (3, .int v3), (4, .int v4), (5, .int v5)]) dX10_move_181 rfl ci_1 rfl rfl ?_
    refine s_goto (tgt := 152) dX10_move_184 (by decide) ?_
    exact s_sub [0, 1, 2, 3, 4] rfl (hq152 (v6 + 1) M15)
theorem tX10_move_L152 (l : Launch) (G : Gx) (v3 : Int32) (v4 : Int32) (v5 : Int32) : ∀ (n : Nat) (v6 : Int32) (M : Mm), Sim cQi l layM G 3 cX10_move RX10 7 (some .int) 152 [(6, .int v6), (0, rf G 0), (3, .int v3), (4, .int v4), (5, .int v5)] [] M (fX10_move_L152 v3 v4 v5 n v6 M)
  | 0, _, _ => s_none
  | n + 1, v6, M => tX10_move_L152b l G v3 v4 v5 _ (tX10_move_L152 l G v3 v4 v5 n) v6 M
def fX10_move_B149 (v3 : Int32) (v4 : Int32) (v5 : Int32) (M : Mm) : Option (Int32 × Mm) :=
  fX10_move_L152 v3 v4 v5 FU (0 : Int32) M
theorem tX10_move_B149 (l : Launch) (G : Gx) (v3 : Int32) (v4 : Int32) (v5 : Int32) (M : Mm) : Sim cQi l layM G 3 cX10_move RX10 7 (some .int) 149 [(0, rf G 0), (3, .int v3), (4, .int v4), (5, .int v5)] [] M (fX10_move_B149 v3 v4 v5 M) := by
  unfold fX10_move_B149
  refine s_iconst (v := 0) dX10_move_149 ci_0 ?_
  refine s_istore (lv' := [(6, .int (0 : Int32)), (0, rf G 0), (3, .int v3), (4, .int v4), (5, .int v5)]) dX10_move_150 rfl rfl ?_
  exact s_sub [0, 1, 2, 3, 4] rfl (tX10_move_L152 l G v3 v4 v5 FU (0 : Int32) M)
def fX10_move_L115b (v1 : Int32) (v2 : Int32) (v3 : Int32) (v4 : Int32) (v5 : Int32) (q115 : Int32 → Mm → Option (Int32 × Mm)) (v6 : Int32) (M : Mm) : Option (Int32 × Mm) :=
  if v5 ≤ v6 then (fX10_move_B149 v3 v4 v5 M)
  else gd (inb ((((24 : Int32) * v1) + v2) + v6) 96) <|
  gd (inb v6 24) <|
  lt (wr M 16 (ix v6) (M 15 (ix ((((24 : Int32) * v1) + v2) + v6)))) fun M18 =>
  q115 (v6 + 1) M18
def fX10_move_L115 (v1 : Int32) (v2 : Int32) (v3 : Int32) (v4 : Int32) (v5 : Int32) : Nat → Int32 → Mm → Option (Int32 × Mm)
  | 0 => fun _ _ => none
  | n + 1 => fX10_move_L115b v1 v2 v3 v4 v5 (fX10_move_L115 v1 v2 v3 v4 v5 n)
theorem tX10_move_L115b (l : Launch) (G : Gx) (v1 : Int32) (v2 : Int32) (v3 : Int32) (v4 : Int32) (v5 : Int32) (q115 : Int32 → Mm → Option (Int32 × Mm)) (hq115 : ∀ (v6 : Int32) (M : Mm), Sim cQi l layM G 3 cX10_move RX10 7 (some .int) 115 [(6, .int v6), (0, rf G 0), (1, .int v1), (2, .int v2), (3, .int v3), (4, .int v4), (5, .int v5)] [] M (q115 v6 M)) (v6 : Int32) (M : Mm) : Sim cQi l layM G 3 cX10_move RX10 7 (some .int) 115 [(6, .int v6), (0, rf G 0), (1, .int v1), (2, .int v2), (3, .int v3), (4, .int v4), (5, .int v5)] [] M (fX10_move_L115b v1 v2 v3 v4 v5 q115 v6 M) := by
  unfold fX10_move_L115b
  refine s_iload 0 dX10_move_115 rfl ?_
  refine s_iload 6 dX10_move_117 rfl ?_
  refine s_icmpge (tgt := 149) dX10_move_119 (by decide) ?_ ?_
  · exact s_sub [1, 4, 5, 6] rfl (tX10_move_B149 l G v3 v4 v5 M)
  · refine s_aload_n 1 dX10_move_122 rfl rfl ?_
    refine g_X10_55 (q := 16) rfl rfl dX10_move_123 ?_
    refine s_iload 0 dX10_move_126 rfl ?_
    refine s_aload_n 1 dX10_move_128 rfl rfl ?_
    refine g_X10_52 (q := 15) rfl rfl dX10_move_129 ?_
    refine s_bipush (v := 24) dX10_move_132 cb_24 ?_
    refine s_iload_n 2 dX10_move_134 rfl rfl ?_
    refine s_imul dX10_move_135 ?_
    refine s_iload_n 3 dX10_move_136 rfl rfl ?_
    refine s_iadd dX10_move_137 ?_
    refine s_iload 0 dX10_move_138 rfl ?_
    refine s_iadd dX10_move_140 ?_
    refine s_gd fun h16 => ?_
    refine s_iald (n := 96) rfl h16 dX10_move_141 ?_
    refine s_gd fun h17 => ?_
    refine s_iast (n := 24) rfl h17 dX10_move_142 ?_
    refine s_letM fun M18 => ?_
    refine s_iinc (k := 0) (lv' := [(6, .int (v6 + 1)), (0, rf G 0), (1, .int v1), (2, .int v2), (3, .int v3), (4, .int v4), (5, .int v5)]) dX10_move_143 rfl ci_1 rfl rfl ?_
    refine s_goto (tgt := 115) dX10_move_146 (by decide) ?_
    exact s_sub [0, 1, 2, 3, 4, 5, 6] rfl (hq115 (v6 + 1) M18)
theorem tX10_move_L115 (l : Launch) (G : Gx) (v1 : Int32) (v2 : Int32) (v3 : Int32) (v4 : Int32) (v5 : Int32) : ∀ (n : Nat) (v6 : Int32) (M : Mm), Sim cQi l layM G 3 cX10_move RX10 7 (some .int) 115 [(6, .int v6), (0, rf G 0), (1, .int v1), (2, .int v2), (3, .int v3), (4, .int v4), (5, .int v5)] [] M (fX10_move_L115 v1 v2 v3 v4 v5 n v6 M)
  | 0, _, _ => s_none
  | n + 1, v6, M => tX10_move_L115b l G v1 v2 v3 v4 v5 _ (tX10_move_L115 l G v1 v2 v3 v4 v5 n) v6 M
def fX10_move (a1 : Int32) (a2 : Int32) (a3 : Int32) (a4 : Int32) (a5 : Int32) (M : Mm) : Option (Int32 × Mm) :=
  bd (fX10_isSheet a1 M) fun r1 M2 =>
  if r1 = true then (bd (fX10_isSheet a3 M2) fun r3 M4 =>
  if r3 = true then (gd (inb a1 4) <|
  if (M4 13 (ix a1)) = 0 then (fX10_move_B38 M4)
  else gd (inb a3 4) <|
  if (M4 13 (ix a3)) = 0 then (fX10_move_B38 M4)
  else if (M4 13 (ix a1)) = (M4 13 (ix a3)) then (if a5 < 0 then (fX10_move_B106 M4)
  else if a2 < 0 then (fX10_move_B106 M4)
  else if a4 < 0 then (fX10_move_B106 M4)
  else if ((M4 14 (ix a1)) - a5) < a2 then (fX10_move_B106 M4)
  else if a4 ≤ ((M4 14 (ix a3)) - a5) then (fX10_move_L115 a1 a2 a3 a4 a5 FU (0 : Int32) M4)
  else fX10_move_B106 M4)
  else bd (fX10_error (5 : Int32) M4) fun r19 M20 =>
  some (r19, M20))
  else fX10_move_B14 M4)
  else fX10_move_B14 M2
theorem mX10_move (l : Launch) (G : Gx) (a1 : Int32) (a2 : Int32) (a3 : Int32) (a4 : Int32) (a5 : Int32) (M : Mm) : Mt cQi l layM G 3 yX10_move cX10_move 7 (some .int) [rf G 0, .int a1, .int a2, .int a3, .int a4, .int a5] M (fX10_move a1 a2 a3 a4 a5 M) := by
  refine Mt.of2 (own := RX10) (lv := [(0, rf G 0), (1, .int a1), (2, .int a2), (3, .int a3), (4, .int a4), (5, .int a5)]) rfl (by decide +kernel) rfl rfl ?_
  unfold fX10_move
  refine s_iload_n 1 dX10_move_0 rfl rfl ?_
  refine s_call_z (s_runS (rest := []) (mX10_isSheet l G a1 M) ok_X10_isSheet k_X10_266 rfl rfl rfl rfl dX10_move_1) fun r1 M2 => ?_
  refine s_ifeqB (tgt := 14) dX10_move_4 (by decide) ?_ ?_
  · exact s_sub [0] rfl (tX10_move_B14 l G M2)
  · refine s_iload_n 3 dX10_move_7 rfl rfl ?_
    refine s_call_z (s_runS (rest := []) (mX10_isSheet l G a3 M2) ok_X10_isSheet k_X10_266 rfl rfl rfl rfl dX10_move_8) fun r3 M4 => ?_
    refine s_ifneB (tgt := 20) dX10_move_11 (by decide) ?_ ?_
    · refine s_aload_n 0 dX10_move_20 rfl rfl ?_
      refine g_X10_46 (q := 13) rfl rfl dX10_move_21 ?_
      refine s_iload_n 1 dX10_move_24 rfl rfl ?_
      refine s_gd fun h7 => ?_
      refine s_iald (n := 4) rfl h7 dX10_move_25 ?_
      refine s_ifeq (tgt := 38) dX10_move_26 (by decide) ?_ ?_
      · exact s_sub [0] rfl (tX10_move_B38 l G M4)
      · refine s_aload_n 0 dX10_move_29 rfl rfl ?_
        refine g_X10_46 (q := 13) rfl rfl dX10_move_30 ?_
        refine s_iload_n 3 dX10_move_33 rfl rfl ?_
        refine s_gd fun h10 => ?_
        refine s_iald (n := 4) rfl h10 dX10_move_34 ?_
        refine s_ifne (tgt := 44) dX10_move_35 (by decide) ?_ ?_
        · refine s_aload_n 0 dX10_move_44 rfl rfl ?_
          refine g_X10_46 (q := 13) rfl rfl dX10_move_45 ?_
          refine s_iload_n 1 dX10_move_48 rfl rfl ?_
          refine s_iald (n := 4) rfl h7 dX10_move_49 ?_
          refine s_aload_n 0 dX10_move_50 rfl rfl ?_
          refine g_X10_46 (q := 13) rfl rfl dX10_move_51 ?_
          refine s_iload_n 3 dX10_move_54 rfl rfl ?_
          refine s_iald (n := 4) rfl h10 dX10_move_55 ?_
          refine s_icmpeq (tgt := 65) dX10_move_56 (by decide) ?_ ?_
          · refine s_iload 5 dX10_move_65 rfl ?_
            refine s_iflt (tgt := 106) dX10_move_67 (by decide) ?_ ?_
            · exact s_sub [0] rfl (tX10_move_B106 l G M4)
            · refine s_iload_n 2 dX10_move_70 rfl rfl ?_
              refine s_iflt (tgt := 106) dX10_move_71 (by decide) ?_ ?_
              · exact s_sub [0] rfl (tX10_move_B106 l G M4)
              · refine s_iload 4 dX10_move_74 rfl ?_
                refine s_iflt (tgt := 106) dX10_move_76 (by decide) ?_ ?_
                · exact s_sub [0] rfl (tX10_move_B106 l G M4)
                · refine s_iload_n 2 dX10_move_79 rfl rfl ?_
                  refine s_aload_n 0 dX10_move_80 rfl rfl ?_
                  refine g_X10_49 (q := 14) rfl rfl dX10_move_81 ?_
                  refine s_iload_n 1 dX10_move_84 rfl rfl ?_
                  refine s_iald (n := 4) rfl h7 dX10_move_85 ?_
                  refine s_iload 5 dX10_move_86 rfl ?_
                  refine s_isub dX10_move_88 ?_
                  refine s_icmpgt (tgt := 106) dX10_move_89 (by decide) ?_ ?_
                  · exact s_sub [0] rfl (tX10_move_B106 l G M4)
                  · refine s_iload 4 dX10_move_92 rfl ?_
                    refine s_aload_n 0 dX10_move_94 rfl rfl ?_
                    refine g_X10_49 (q := 14) rfl rfl dX10_move_95 ?_
                    refine s_iload_n 3 dX10_move_98 rfl rfl ?_
                    refine s_iald (n := 4) rfl h10 dX10_move_99 ?_
                    refine s_iload 5 dX10_move_100 rfl ?_
                    refine s_isub dX10_move_102 ?_
                    refine s_icmple (tgt := 112) dX10_move_103 (by decide) ?_ ?_
                    · refine s_iconst (v := 0) dX10_move_112 ci_0 ?_
                      refine s_istore (lv' := [(6, .int (0 : Int32)), (0, rf G 0), (1, .int a1), (2, .int a2), (3, .int a3), (4, .int a4), (5, .int a5)]) dX10_move_113 rfl rfl ?_
                      exact s_sub [0, 1, 2, 3, 4, 5, 6] rfl (tX10_move_L115 l G a1 a2 a3 a4 a5 FU (0 : Int32) M4)
                    · exact s_sub [0] rfl (tX10_move_B106 l G M4)
          · refine s_aload_n 0 dX10_move_59 rfl rfl ?_
            refine s_iconst (v := 5) dX10_move_60 ci_5 ?_
            refine s_call_i (s_runV (ci := 10) (rest := []) rfl rfl (mX10_error l G (5 : Int32) M4) ok_X10_error k_X10_75 rfl rfl rfl rfl dX10_move_61) fun r19 M20 => ?_
            exact s_iret rfl dX10_move_64
        · exact s_sub [0] rfl (tX10_move_B38 l G M4)
    · exact s_sub [0] rfl (tX10_move_B14 l G M4)
theorem dX10_lacks_0 : decode cX10_lacks 0 = .ok (.iload_n 1, 1) := by decide +kernel
theorem dX10_lacks_1 : decode cX10_lacks 1 = .ok (.invokestatic 266, 3) := by decide +kernel
theorem dX10_lacks_4 : decode cX10_lacks 4 = .ok (.ifCond .ne 7, 3) := by decide +kernel
theorem dX10_lacks_7 : decode cX10_lacks 7 = .ok (.iconst 1, 1) := by decide +kernel
theorem dX10_lacks_8 : decode cX10_lacks 8 = .ok (.goto 17, 3) := by decide +kernel
theorem dX10_lacks_11 : decode cX10_lacks 11 = .ok (.aload_n 0, 1) := by decide +kernel
theorem dX10_lacks_12 : decode cX10_lacks 12 = .ok (.getfield 46, 3) := by decide +kernel
theorem dX10_lacks_15 : decode cX10_lacks 15 = .ok (.iload_n 1, 1) := by decide +kernel
theorem dX10_lacks_16 : decode cX10_lacks 16 = .ok (.iaload, 1) := by decide +kernel
theorem dX10_lacks_17 : decode cX10_lacks 17 = .ok (.ifCond .ne 7, 3) := by decide +kernel
theorem dX10_lacks_20 : decode cX10_lacks 20 = .ok (.iconst 2, 1) := by decide +kernel
theorem dX10_lacks_21 : decode cX10_lacks 21 = .ok (.goto 4, 3) := by decide +kernel
theorem dX10_lacks_24 : decode cX10_lacks 24 = .ok (.iconst 0, 1) := by decide +kernel
theorem dX10_lacks_25 : decode cX10_lacks 25 = .ok (.ireturn, 1) := by decide +kernel
def fX10_lacks_B25 (w0 : Int32) (M : Mm) : Option (Int32 × Mm) :=
  some (w0, M)
theorem tX10_lacks_B25 (l : Launch) (G : Gx) (w0 : Int32) (M : Mm) : Sim cQi l layM G 3 cX10_lacks RX10 2 (some .int) 25 [] [.int w0] M (fX10_lacks_B25 w0 M) := by
  unfold fX10_lacks_B25
  exact s_iret rfl dX10_lacks_25
def fX10_lacks (a1 : Int32) (M : Mm) : Option (Int32 × Mm) :=
  bd (fX10_isSheet a1 M) fun r1 M2 =>
  if r1 = true then (gd (inb a1 4) <|
  if (M2 13 (ix a1)) = 0 then (fX10_lacks_B25 (2 : Int32) M2)
  else fX10_lacks_B25 (0 : Int32) M2)
  else fX10_lacks_B25 (1 : Int32) M2
theorem mX10_lacks (l : Launch) (G : Gx) (a1 : Int32) (M : Mm) : Mt cQi l layM G 3 yX10_lacks cX10_lacks 2 (some .int) [rf G 0, .int a1] M (fX10_lacks a1 M) := by
  refine Mt.of2 (own := RX10) (lv := [(0, rf G 0), (1, .int a1)]) rfl (by decide +kernel) rfl rfl ?_
  unfold fX10_lacks
  refine s_iload_n 1 dX10_lacks_0 rfl rfl ?_
  refine s_call_z (s_runS (rest := []) (mX10_isSheet l G a1 M) ok_X10_isSheet k_X10_266 rfl rfl rfl rfl dX10_lacks_1) fun r1 M2 => ?_
  refine s_ifneB (tgt := 11) dX10_lacks_4 (by decide) ?_ ?_
  · refine s_aload_n 0 dX10_lacks_11 rfl rfl ?_
    refine g_X10_46 (q := 13) rfl rfl dX10_lacks_12 ?_
    refine s_iload_n 1 dX10_lacks_15 rfl rfl ?_
    refine s_gd fun h3 => ?_
    refine s_iald (n := 4) rfl h3 dX10_lacks_16 ?_
    refine s_ifne (tgt := 24) dX10_lacks_17 (by decide) ?_ ?_
    · refine s_iconst (v := 0) dX10_lacks_24 ci_0 ?_
      exact s_sub [] rfl (tX10_lacks_B25 l G (0 : Int32) M2)
    · refine s_iconst (v := 2) dX10_lacks_20 ci_2 ?_
      refine s_goto (tgt := 25) dX10_lacks_21 (by decide) ?_
      exact s_sub [] rfl (tX10_lacks_B25 l G (2 : Int32) M2)
  · refine s_iconst (v := 1) dX10_lacks_7 ci_1 ?_
    refine s_goto (tgt := 25) dX10_lacks_8 (by decide) ?_
    exact s_sub [] rfl (tX10_lacks_B25 l G (1 : Int32) M2)
theorem dX10_casts_0 : decode cX10_casts 0 = .ok (.aload_n 0, 1) := by decide +kernel
theorem dX10_casts_1 : decode cX10_casts 1 = .ok (.iload_n 1, 1) := by decide +kernel
theorem dX10_casts_2 : decode cX10_casts 2 = .ok (.invokevirtual 269, 3) := by decide +kernel
theorem dX10_casts_5 : decode cX10_casts 5 = .ok (.istore_n 2, 1) := by decide +kernel
theorem dX10_casts_6 : decode cX10_casts 6 = .ok (.iload_n 2, 1) := by decide +kernel
theorem dX10_casts_7 : decode cX10_casts 7 = .ok (.ifCond .le 9, 3) := by decide +kernel
theorem dX10_casts_10 : decode cX10_casts 10 = .ok (.aload_n 0, 1) := by decide +kernel
theorem dX10_casts_11 : decode cX10_casts 11 = .ok (.iload_n 2, 1) := by decide +kernel
theorem dX10_casts_12 : decode cX10_casts 12 = .ok (.invokevirtual 75, 3) := by decide +kernel
theorem dX10_casts_15 : decode cX10_casts 15 = .ok (.ireturn, 1) := by decide +kernel
theorem dX10_casts_16 : decode cX10_casts 16 = .ok (.iconst 0, 1) := by decide +kernel
theorem dX10_casts_17 : decode cX10_casts 17 = .ok (.istore_n 3, 1) := by decide +kernel
theorem dX10_casts_18 : decode cX10_casts 18 = .ok (.bipush 24, 2) := by decide +kernel
theorem dX10_casts_20 : decode cX10_casts 20 = .ok (.iload_n 1, 1) := by decide +kernel
theorem dX10_casts_21 : decode cX10_casts 21 = .ok (.imul, 1) := by decide +kernel
theorem dX10_casts_22 : decode cX10_casts 22 = .ok (.istore 4, 2) := by decide +kernel
theorem dX10_casts_24 : decode cX10_casts 24 = .ok (.iconst 3, 1) := by decide +kernel
theorem dX10_casts_25 : decode cX10_casts 25 = .ok (.iload_n 3, 1) := by decide +kernel
theorem dX10_casts_26 : decode cX10_casts 26 = .ok (.imul, 1) := by decide +kernel
theorem dX10_casts_27 : decode cX10_casts 27 = .ok (.iconst 2, 1) := by decide +kernel
theorem dX10_casts_28 : decode cX10_casts 28 = .ok (.iadd, 1) := by decide +kernel
theorem dX10_casts_29 : decode cX10_casts 29 = .ok (.aload_n 0, 1) := by decide +kernel
theorem dX10_casts_30 : decode cX10_casts 30 = .ok (.getfield 49, 3) := by decide +kernel
theorem dX10_casts_33 : decode cX10_casts 33 = .ok (.iload_n 1, 1) := by decide +kernel
theorem dX10_casts_34 : decode cX10_casts 34 = .ok (.iaload, 1) := by decide +kernel
theorem dX10_casts_35 : decode cX10_casts 35 = .ok (.if_icmp .ge 96, 3) := by decide +kernel
theorem dX10_casts_38 : decode cX10_casts 38 = .ok (.aload_n 0, 1) := by decide +kernel
theorem dX10_casts_39 : decode cX10_casts 39 = .ok (.aload_n 0, 1) := by decide +kernel
theorem dX10_casts_40 : decode cX10_casts 40 = .ok (.getfield 52, 3) := by decide +kernel
theorem dX10_casts_43 : decode cX10_casts 43 = .ok (.iload 4, 2) := by decide +kernel
theorem dX10_casts_45 : decode cX10_casts 45 = .ok (.iconst 3, 1) := by decide +kernel
theorem dX10_casts_46 : decode cX10_casts 46 = .ok (.iload_n 3, 1) := by decide +kernel
theorem dX10_casts_47 : decode cX10_casts 47 = .ok (.imul, 1) := by decide +kernel
theorem dX10_casts_48 : decode cX10_casts 48 = .ok (.iadd, 1) := by decide +kernel
theorem dX10_casts_49 : decode cX10_casts 49 = .ok (.iaload, 1) := by decide +kernel
theorem dX10_casts_50 : decode cX10_casts 50 = .ok (.aload_n 0, 1) := by decide +kernel
theorem dX10_casts_51 : decode cX10_casts 51 = .ok (.getfield 52, 3) := by decide +kernel
theorem dX10_casts_54 : decode cX10_casts 54 = .ok (.iload 4, 2) := by decide +kernel
theorem dX10_casts_56 : decode cX10_casts 56 = .ok (.iconst 3, 1) := by decide +kernel
theorem dX10_casts_57 : decode cX10_casts 57 = .ok (.iload_n 3, 1) := by decide +kernel
theorem dX10_casts_58 : decode cX10_casts 58 = .ok (.imul, 1) := by decide +kernel
theorem dX10_casts_59 : decode cX10_casts 59 = .ok (.iadd, 1) := by decide +kernel
theorem dX10_casts_60 : decode cX10_casts 60 = .ok (.iconst 1, 1) := by decide +kernel
theorem dX10_casts_61 : decode cX10_casts 61 = .ok (.iadd, 1) := by decide +kernel
theorem dX10_casts_62 : decode cX10_casts 62 = .ok (.iaload, 1) := by decide +kernel
theorem dX10_casts_63 : decode cX10_casts 63 = .ok (.aload_n 0, 1) := by decide +kernel
theorem dX10_casts_64 : decode cX10_casts 64 = .ok (.getfield 52, 3) := by decide +kernel
theorem dX10_casts_67 : decode cX10_casts 67 = .ok (.iload 4, 2) := by decide +kernel
theorem dX10_casts_69 : decode cX10_casts 69 = .ok (.iconst 3, 1) := by decide +kernel
theorem dX10_casts_70 : decode cX10_casts 70 = .ok (.iload_n 3, 1) := by decide +kernel
theorem dX10_casts_71 : decode cX10_casts 71 = .ok (.imul, 1) := by decide +kernel
theorem dX10_casts_72 : decode cX10_casts 72 = .ok (.iadd, 1) := by decide +kernel
theorem dX10_casts_73 : decode cX10_casts 73 = .ok (.iconst 2, 1) := by decide +kernel
theorem dX10_casts_74 : decode cX10_casts 74 = .ok (.iadd, 1) := by decide +kernel
theorem dX10_casts_75 : decode cX10_casts 75 = .ok (.iaload, 1) := by decide +kernel
theorem dX10_casts_76 : decode cX10_casts 76 = .ok (.invokevirtual 72, 3) := by decide +kernel
theorem dX10_casts_79 : decode cX10_casts 79 = .ok (.ifCond .ne 52, 3) := by decide +kernel
theorem dX10_casts_82 : decode cX10_casts 82 = .ok (.aload_n 0, 1) := by decide +kernel
theorem dX10_casts_83 : decode cX10_casts 83 = .ok (.aload_n 0, 1) := by decide +kernel
theorem dX10_casts_84 : decode cX10_casts 84 = .ok (.getfield 52, 3) := by decide +kernel
theorem dX10_casts_87 : decode cX10_casts 87 = .ok (.iload 4, 2) := by decide +kernel
theorem dX10_casts_89 : decode cX10_casts 89 = .ok (.iconst 3, 1) := by decide +kernel
theorem dX10_casts_90 : decode cX10_casts 90 = .ok (.iload_n 3, 1) := by decide +kernel
theorem dX10_casts_91 : decode cX10_casts 91 = .ok (.imul, 1) := by decide +kernel
theorem dX10_casts_92 : decode cX10_casts 92 = .ok (.iadd, 1) := by decide +kernel
theorem dX10_casts_93 : decode cX10_casts 93 = .ok (.iaload, 1) := by decide +kernel
theorem dX10_casts_94 : decode cX10_casts 94 = .ok (.aload_n 0, 1) := by decide +kernel
theorem dX10_casts_95 : decode cX10_casts 95 = .ok (.getfield 52, 3) := by decide +kernel
theorem dX10_casts_98 : decode cX10_casts 98 = .ok (.iload 4, 2) := by decide +kernel
theorem dX10_casts_100 : decode cX10_casts 100 = .ok (.iconst 3, 1) := by decide +kernel
theorem dX10_casts_101 : decode cX10_casts 101 = .ok (.iload_n 3, 1) := by decide +kernel
theorem dX10_casts_102 : decode cX10_casts 102 = .ok (.imul, 1) := by decide +kernel
theorem dX10_casts_103 : decode cX10_casts 103 = .ok (.iadd, 1) := by decide +kernel
theorem dX10_casts_104 : decode cX10_casts 104 = .ok (.iconst 1, 1) := by decide +kernel
theorem dX10_casts_105 : decode cX10_casts 105 = .ok (.iadd, 1) := by decide +kernel
theorem dX10_casts_106 : decode cX10_casts 106 = .ok (.iaload, 1) := by decide +kernel
theorem dX10_casts_107 : decode cX10_casts 107 = .ok (.aload_n 0, 1) := by decide +kernel
theorem dX10_casts_108 : decode cX10_casts 108 = .ok (.getfield 52, 3) := by decide +kernel
theorem dX10_casts_111 : decode cX10_casts 111 = .ok (.iload 4, 2) := by decide +kernel
theorem dX10_casts_113 : decode cX10_casts 113 = .ok (.iconst 3, 1) := by decide +kernel
theorem dX10_casts_114 : decode cX10_casts 114 = .ok (.iload_n 3, 1) := by decide +kernel
theorem dX10_casts_115 : decode cX10_casts 115 = .ok (.imul, 1) := by decide +kernel
theorem dX10_casts_116 : decode cX10_casts 116 = .ok (.iadd, 1) := by decide +kernel
theorem dX10_casts_117 : decode cX10_casts 117 = .ok (.iconst 2, 1) := by decide +kernel
theorem dX10_casts_118 : decode cX10_casts 118 = .ok (.iadd, 1) := by decide +kernel
theorem dX10_casts_119 : decode cX10_casts 119 = .ok (.iaload, 1) := by decide +kernel
theorem dX10_casts_120 : decode cX10_casts 120 = .ok (.invokevirtual 79, 3) := by decide +kernel
theorem dX10_casts_123 : decode cX10_casts 123 = .ok (.istore 5, 2) := by decide +kernel
theorem dX10_casts_125 : decode cX10_casts 125 = .ok (.iinc 3 1, 3) := by decide +kernel
theorem dX10_casts_128 : decode cX10_casts 128 = .ok (.goto (-104), 3) := by decide +kernel
theorem dX10_casts_131 : decode cX10_casts 131 = .ok (.iload_n 3, 1) := by decide +kernel
theorem dX10_casts_132 : decode cX10_casts 132 = .ok (.ireturn, 1) := by decide +kernel
def fX10_casts_B131 (v3 : Int32) (M : Mm) : Option (Int32 × Mm) :=
  some (v3, M)
theorem tX10_casts_B131 (l : Launch) (G : Gx) (v3 : Int32) (M : Mm) : Sim cQi l layM G 4 cX10_casts RX10 6 (some .int) 131 [(3, .int v3)] [] M (fX10_casts_B131 v3 M) := by
  unfold fX10_casts_B131
  refine s_iload_n 0 dX10_casts_131 rfl rfl ?_
  exact s_iret rfl dX10_casts_132
def fX10_casts_L24b (v4 : Int32) (v1 : Int32) (q24 : Int32 → Mm → Option (Int32 × Mm)) (v3 : Int32) (M : Mm) : Option (Int32 × Mm) :=
  gd (inb v1 4) <|
  if (M 14 (ix v1)) ≤ (((3 : Int32) * v3) + (2 : Int32)) then (fX10_casts_B131 v3 M)
  else gd (inb (v4 + ((3 : Int32) * v3)) 96) <|
  gd (inb ((v4 + ((3 : Int32) * v3)) + (1 : Int32)) 96) <|
  gd (inb ((v4 + ((3 : Int32) * v3)) + (2 : Int32)) 96) <|
  bd (fX10_whyNotCast (M 15 (ix (v4 + ((3 : Int32) * v3)))) (M 15 (ix ((v4 + ((3 : Int32) * v3)) + (1 : Int32)))) (M 15 (ix ((v4 + ((3 : Int32) * v3)) + (2 : Int32)))) M) fun r8 M9 =>
  if r8 = 0 then (bd (fX10_casts1 (M9 15 (ix (v4 + ((3 : Int32) * v3)))) (M9 15 (ix ((v4 + ((3 : Int32) * v3)) + (1 : Int32)))) (M9 15 (ix ((v4 + ((3 : Int32) * v3)) + (2 : Int32)))) M9) fun r10 M11 =>
  q24 (v3 + 1) M11)
  else fX10_casts_B131 v3 M9
def fX10_casts_L24 (v4 : Int32) (v1 : Int32) : Nat → Int32 → Mm → Option (Int32 × Mm)
  | 0 => fun _ _ => none
  | n + 1 => fX10_casts_L24b v4 v1 (fX10_casts_L24 v4 v1 n)
theorem tX10_casts_L24b (l : Launch) (G : Gx) (v4 : Int32) (v1 : Int32) (q24 : Int32 → Mm → Option (Int32 × Mm)) (hq24 : ∀ (v3 : Int32) (M : Mm), Sim cQi l layM G 4 cX10_casts RX10 6 (some .int) 24 [(4, .int v4), (3, .int v3), (0, rf G 0), (1, .int v1)] [] M (q24 v3 M)) (v3 : Int32) (M : Mm) : Sim cQi l layM G 4 cX10_casts RX10 6 (some .int) 24 [(4, .int v4), (3, .int v3), (0, rf G 0), (1, .int v1)] [] M (fX10_casts_L24b v4 v1 q24 v3 M) := by
  unfold fX10_casts_L24b
  refine s_iconst (v := 3) dX10_casts_24 ci_3 ?_
  refine s_iload_n 1 dX10_casts_25 rfl rfl ?_
  refine s_imul dX10_casts_26 ?_
  refine s_iconst (v := 2) dX10_casts_27 ci_2 ?_
  refine s_iadd dX10_casts_28 ?_
  refine s_aload_n 2 dX10_casts_29 rfl rfl ?_
  refine g_X10_49 (q := 14) rfl rfl dX10_casts_30 ?_
  refine s_iload_n 3 dX10_casts_33 rfl rfl ?_
  refine s_gd fun h4 => ?_
  refine s_iald (n := 4) rfl h4 dX10_casts_34 ?_
  refine s_icmpge (tgt := 131) dX10_casts_35 (by decide) ?_ ?_
  · exact s_sub [1] rfl (tX10_casts_B131 l G v3 M)
  · refine s_aload_n 2 dX10_casts_38 rfl rfl ?_
    refine s_aload_n 2 dX10_casts_39 rfl rfl ?_
    refine g_X10_52 (q := 15) rfl rfl dX10_casts_40 ?_
    refine s_iload 0 dX10_casts_43 rfl ?_
    refine s_iconst (v := 3) dX10_casts_45 ci_3 ?_
    refine s_iload_n 1 dX10_casts_46 rfl rfl ?_
    refine s_imul dX10_casts_47 ?_
    refine s_iadd dX10_casts_48 ?_
    refine s_gd fun h5 => ?_
    refine s_iald (n := 96) rfl h5 dX10_casts_49 ?_
    refine s_aload_n 2 dX10_casts_50 rfl rfl ?_
    refine g_X10_52 (q := 15) rfl rfl dX10_casts_51 ?_
    refine s_iload 0 dX10_casts_54 rfl ?_
    refine s_iconst (v := 3) dX10_casts_56 ci_3 ?_
    refine s_iload_n 1 dX10_casts_57 rfl rfl ?_
    refine s_imul dX10_casts_58 ?_
    refine s_iadd dX10_casts_59 ?_
    refine s_iconst (v := 1) dX10_casts_60 ci_1 ?_
    refine s_iadd dX10_casts_61 ?_
    refine s_gd fun h6 => ?_
    refine s_iald (n := 96) rfl h6 dX10_casts_62 ?_
    refine s_aload_n 2 dX10_casts_63 rfl rfl ?_
    refine g_X10_52 (q := 15) rfl rfl dX10_casts_64 ?_
    refine s_iload 0 dX10_casts_67 rfl ?_
    refine s_iconst (v := 3) dX10_casts_69 ci_3 ?_
    refine s_iload_n 1 dX10_casts_70 rfl rfl ?_
    refine s_imul dX10_casts_71 ?_
    refine s_iadd dX10_casts_72 ?_
    refine s_iconst (v := 2) dX10_casts_73 ci_2 ?_
    refine s_iadd dX10_casts_74 ?_
    refine s_gd fun h7 => ?_
    refine s_iald (n := 96) rfl h7 dX10_casts_75 ?_
    refine s_call_i (s_runV (ci := 10) (rest := []) rfl rfl (mX10_whyNotCast l G (M 15 (ix (v4 + ((3 : Int32) * v3)))) (M 15 (ix ((v4 + ((3 : Int32) * v3)) + (1 : Int32)))) (M 15 (ix ((v4 + ((3 : Int32) * v3)) + (2 : Int32)))) M) ok_X10_whyNotCast k_X10_72 rfl rfl rfl rfl dX10_casts_76) fun r8 M9 => ?_
    refine s_ifne (tgt := 131) dX10_casts_79 (by decide) ?_ ?_
    · exact s_sub [1] rfl (tX10_casts_B131 l G v3 M9)
    · refine s_aload_n 2 dX10_casts_82 rfl rfl ?_
      refine s_aload_n 2 dX10_casts_83 rfl rfl ?_
      refine g_X10_52 (q := 15) rfl rfl dX10_casts_84 ?_
      refine s_iload 0 dX10_casts_87 rfl ?_
      refine s_iconst (v := 3) dX10_casts_89 ci_3 ?_
      refine s_iload_n 1 dX10_casts_90 rfl rfl ?_
      refine s_imul dX10_casts_91 ?_
      refine s_iadd dX10_casts_92 ?_
      refine s_iald (n := 96) rfl h5 dX10_casts_93 ?_
      refine s_aload_n 2 dX10_casts_94 rfl rfl ?_
      refine g_X10_52 (q := 15) rfl rfl dX10_casts_95 ?_
      refine s_iload 0 dX10_casts_98 rfl ?_
      refine s_iconst (v := 3) dX10_casts_100 ci_3 ?_
      refine s_iload_n 1 dX10_casts_101 rfl rfl ?_
      refine s_imul dX10_casts_102 ?_
      refine s_iadd dX10_casts_103 ?_
      refine s_iconst (v := 1) dX10_casts_104 ci_1 ?_
      refine s_iadd dX10_casts_105 ?_
      refine s_iald (n := 96) rfl h6 dX10_casts_106 ?_
      refine s_aload_n 2 dX10_casts_107 rfl rfl ?_
      refine g_X10_52 (q := 15) rfl rfl dX10_casts_108 ?_
      refine s_iload 0 dX10_casts_111 rfl ?_
      refine s_iconst (v := 3) dX10_casts_113 ci_3 ?_
      refine s_iload_n 1 dX10_casts_114 rfl rfl ?_
      refine s_imul dX10_casts_115 ?_
      refine s_iadd dX10_casts_116 ?_
      refine s_iconst (v := 2) dX10_casts_117 ci_2 ?_
      refine s_iadd dX10_casts_118 ?_
      refine s_iald (n := 96) rfl h7 dX10_casts_119 ?_
      refine s_call_i (s_runV (ci := 10) (rest := []) rfl rfl (mX10_casts1 l G (M9 15 (ix (v4 + ((3 : Int32) * v3)))) (M9 15 (ix ((v4 + ((3 : Int32) * v3)) + (1 : Int32)))) (M9 15 (ix ((v4 + ((3 : Int32) * v3)) + (2 : Int32)))) M9) ok_X10_casts1 k_X10_79 rfl rfl rfl rfl dX10_casts_120) fun r10 M11 => ?_
      refine s_istore (lv' := [(5, .int r10), (4, .int v4), (3, .int v3), (0, rf G 0), (1, .int v1)]) dX10_casts_123 rfl rfl ?_
      refine s_iinc (k := 2) (lv' := [(3, .int (v3 + 1)), (5, .int r10), (4, .int v4), (0, rf G 0), (1, .int v1)]) dX10_casts_125 rfl ci_1 rfl rfl ?_
      refine s_goto (tgt := 24) dX10_casts_128 (by decide) ?_
      exact s_sub [2, 0, 3, 4] rfl (hq24 (v3 + 1) M11)
theorem tX10_casts_L24 (l : Launch) (G : Gx) (v4 : Int32) (v1 : Int32) : ∀ (n : Nat) (v3 : Int32) (M : Mm), Sim cQi l layM G 4 cX10_casts RX10 6 (some .int) 24 [(4, .int v4), (3, .int v3), (0, rf G 0), (1, .int v1)] [] M (fX10_casts_L24 v4 v1 n v3 M)
  | 0, _, _ => s_none
  | n + 1, v3, M => tX10_casts_L24b l G v4 v1 _ (tX10_casts_L24 l G v4 v1 n) v3 M
def fX10_casts (a1 : Int32) (M : Mm) : Option (Int32 × Mm) :=
  bd (fX10_lacks a1 M) fun r1 M2 =>
  if r1 ≤ 0 then (lt ((24 : Int32) * a1) fun x3 =>
  fX10_casts_L24 x3 a1 FU (0 : Int32) M2)
  else bd (fX10_error r1 M2) fun r12 M13 =>
  some (r12, M13)
theorem mX10_casts (l : Launch) (G : Gx) (a1 : Int32) (M : Mm) : Mt cQi l layM G 4 yX10_casts cX10_casts 6 (some .int) [rf G 0, .int a1] M (fX10_casts a1 M) := by
  refine Mt.of2 (own := RX10) (lv := [(0, rf G 0), (1, .int a1)]) rfl (by decide +kernel) rfl rfl ?_
  unfold fX10_casts
  refine s_aload_n 0 dX10_casts_0 rfl rfl ?_
  refine s_iload_n 1 dX10_casts_1 rfl rfl ?_
  refine s_call_i (s_runV (ci := 10) (rest := []) rfl rfl (mX10_lacks l G a1 M) ok_X10_lacks k_X10_269 rfl rfl rfl rfl dX10_casts_2) fun r1 M2 => ?_
  refine s_istore_n (lv' := [(2, .int r1), (0, rf G 0), (1, .int a1)]) dX10_casts_5 rfl rfl rfl ?_
  refine s_iload_n 0 dX10_casts_6 rfl rfl ?_
  refine s_ifle (tgt := 16) dX10_casts_7 (by decide) ?_ ?_
  · refine s_iconst (v := 0) dX10_casts_16 ci_0 ?_
    refine s_istore_n (lv' := [(3, .int (0 : Int32)), (2, .int r1), (0, rf G 0), (1, .int a1)]) dX10_casts_17 rfl rfl rfl ?_
    refine s_bipush (v := 24) dX10_casts_18 cb_24 ?_
    refine s_iload_n 3 dX10_casts_20 rfl rfl ?_
    refine s_imul dX10_casts_21 ?_
    refine s_leti fun x3 => ?_
    refine s_istore (lv' := [(4, .int x3), (3, .int (0 : Int32)), (2, .int r1), (0, rf G 0), (1, .int a1)]) dX10_casts_22 rfl rfl ?_
    exact s_sub [0, 1, 3, 4] rfl (tX10_casts_L24 l G x3 a1 FU (0 : Int32) M2)
  · refine s_aload_n 1 dX10_casts_10 rfl rfl ?_
    refine s_iload_n 0 dX10_casts_11 rfl rfl ?_
    refine s_call_i (s_runV (ci := 10) (rest := []) rfl rfl (mX10_error l G r1 M2) ok_X10_error k_X10_75 rfl rfl rfl rfl dX10_casts_12) fun r12 M13 => ?_
    exact s_iret rfl dX10_casts_15
theorem dX10_judge_0 : decode cX10_judge 0 = .ok (.iload_n 2, 1) := by decide +kernel
theorem dX10_judge_1 : decode cX10_judge 1 = .ok (.invokestatic 182, 3) := by decide +kernel
theorem dX10_judge_4 : decode cX10_judge 4 = .ok (.ifCond .eq 11, 3) := by decide +kernel
theorem dX10_judge_7 : decode cX10_judge 7 = .ok (.aload_n 0, 1) := by decide +kernel
theorem dX10_judge_8 : decode cX10_judge 8 = .ok (.iload_n 1, 1) := by decide +kernel
theorem dX10_judge_9 : decode cX10_judge 9 = .ok (.invokevirtual 269, 3) := by decide +kernel
theorem dX10_judge_12 : decode cX10_judge 12 = .ok (.goto 4, 3) := by decide +kernel
theorem dX10_judge_15 : decode cX10_judge 15 = .ok (.iconst 1, 1) := by decide +kernel
theorem dX10_judge_16 : decode cX10_judge 16 = .ok (.istore_n 3, 1) := by decide +kernel
theorem dX10_judge_17 : decode cX10_judge 17 = .ok (.iload_n 3, 1) := by decide +kernel
theorem dX10_judge_18 : decode cX10_judge 18 = .ok (.ifCond .le 9, 3) := by decide +kernel
theorem dX10_judge_21 : decode cX10_judge 21 = .ok (.aload_n 0, 1) := by decide +kernel
theorem dX10_judge_22 : decode cX10_judge 22 = .ok (.iload_n 3, 1) := by decide +kernel
theorem dX10_judge_23 : decode cX10_judge 23 = .ok (.invokevirtual 75, 3) := by decide +kernel
theorem dX10_judge_26 : decode cX10_judge 26 = .ok (.ireturn, 1) := by decide +kernel
theorem dX10_judge_27 : decode cX10_judge 27 = .ok (.aload_n 0, 1) := by decide +kernel
theorem dX10_judge_28 : decode cX10_judge 28 = .ok (.getfield 7, 3) := by decide +kernel
theorem dX10_judge_31 : decode cX10_judge 31 = .ok (.aload_n 0, 1) := by decide +kernel
theorem dX10_judge_32 : decode cX10_judge 32 = .ok (.getfield 16, 3) := by decide +kernel
theorem dX10_judge_35 : decode cX10_judge 35 = .ok (.invokestatic 194, 3) := by decide +kernel
theorem dX10_judge_38 : decode cX10_judge 38 = .ok (.iconst 0, 1) := by decide +kernel
theorem dX10_judge_39 : decode cX10_judge 39 = .ok (.istore 4, 2) := by decide +kernel
theorem dX10_judge_41 : decode cX10_judge 41 = .ok (.iload 4, 2) := by decide +kernel
theorem dX10_judge_43 : decode cX10_judge 43 = .ok (.aload_n 0, 1) := by decide +kernel
theorem dX10_judge_44 : decode cX10_judge 44 = .ok (.getfield 49, 3) := by decide +kernel
theorem dX10_judge_47 : decode cX10_judge 47 = .ok (.iload_n 1, 1) := by decide +kernel
theorem dX10_judge_48 : decode cX10_judge 48 = .ok (.iaload, 1) := by decide +kernel
theorem dX10_judge_49 : decode cX10_judge 49 = .ok (.if_icmp .ge 36, 3) := by decide +kernel
theorem dX10_judge_52 : decode cX10_judge 52 = .ok (.aload_n 0, 1) := by decide +kernel
theorem dX10_judge_53 : decode cX10_judge 53 = .ok (.getfield 52, 3) := by decide +kernel
theorem dX10_judge_56 : decode cX10_judge 56 = .ok (.bipush 24, 2) := by decide +kernel
theorem dX10_judge_58 : decode cX10_judge 58 = .ok (.iload_n 1, 1) := by decide +kernel
theorem dX10_judge_59 : decode cX10_judge 59 = .ok (.imul, 1) := by decide +kernel
theorem dX10_judge_60 : decode cX10_judge 60 = .ok (.iload 4, 2) := by decide +kernel
theorem dX10_judge_62 : decode cX10_judge 62 = .ok (.iadd, 1) := by decide +kernel
theorem dX10_judge_63 : decode cX10_judge 63 = .ok (.iaload, 1) := by decide +kernel
theorem dX10_judge_64 : decode cX10_judge 64 = .ok (.aload_n 0, 1) := by decide +kernel
theorem dX10_judge_65 : decode cX10_judge 65 = .ok (.iload_n 2, 1) := by decide +kernel
theorem dX10_judge_66 : decode cX10_judge 66 = .ok (.invokevirtual 185, 3) := by decide +kernel
theorem dX10_judge_69 : decode cX10_judge 69 = .ok (.if_icmp .ne 16, 3) := by decide +kernel
theorem dX10_judge_72 : decode cX10_judge 72 = .ok (.aload_n 0, 1) := by decide +kernel
theorem dX10_judge_73 : decode cX10_judge 73 = .ok (.iload_n 2, 1) := by decide +kernel
theorem dX10_judge_74 : decode cX10_judge 74 = .ok (.invokevirtual 191, 3) := by decide +kernel
theorem dX10_judge_77 : decode cX10_judge 77 = .ok (.istore 5, 2) := by decide +kernel
theorem dX10_judge_79 : decode cX10_judge 79 = .ok (.iinc 4 1, 3) := by decide +kernel
theorem dX10_judge_82 : decode cX10_judge 82 = .ok (.goto (-41), 3) := by decide +kernel
theorem dX10_judge_85 : decode cX10_judge 85 = .ok (.aload_n 0, 1) := by decide +kernel
theorem dX10_judge_86 : decode cX10_judge 86 = .ok (.getfield 16, 3) := by decide +kernel
theorem dX10_judge_89 : decode cX10_judge 89 = .ok (.aload_n 0, 1) := by decide +kernel
theorem dX10_judge_90 : decode cX10_judge 90 = .ok (.getfield 7, 3) := by decide +kernel
theorem dX10_judge_93 : decode cX10_judge 93 = .ok (.invokestatic 194, 3) := by decide +kernel
theorem dX10_judge_96 : decode cX10_judge 96 = .ok (.iload 4, 2) := by decide +kernel
theorem dX10_judge_98 : decode cX10_judge 98 = .ok (.ireturn, 1) := by decide +kernel
def fX10_judge_B85 (v4 : Int32) (M : Mm) : Option (Int32 × Mm) :=
  bd (fX10_carry_3_1 M) fun r8 M9 =>
  some (v4, M9)
theorem tX10_judge_B85 (l : Launch) (G : Gx) (v4 : Int32) (M : Mm) : Sim cQi l layM G 7 cX10_judge RX10 6 (some .int) 85 [(4, .int v4), (0, rf G 0)] [] M (fX10_judge_B85 v4 M) := by
  unfold fX10_judge_B85
  refine s_aload_n 1 dX10_judge_85 rfl rfl ?_
  refine g_X10_16 (q := 3) rfl rfl dX10_judge_86 ?_
  refine s_aload_n 1 dX10_judge_89 rfl rfl ?_
  refine g_X10_7 (q := 1) rfl rfl dX10_judge_90 ?_
  refine s_call_v (s_runS (rest := []) (mX10_carry_3_1 l G M) ok_X10_carry k_X10_194 rfl rfl rfl rfl dX10_judge_93) fun r8 M9 => ?_
  refine s_iload 0 dX10_judge_96 rfl ?_
  exact s_iret rfl dX10_judge_98
def fX10_judge_L41b (v1 : Int32) (v2 : Int32) (q41 : Int32 → Mm → Option (Int32 × Mm)) (v4 : Int32) (M : Mm) : Option (Int32 × Mm) :=
  gd (inb v1 4) <|
  if (M 14 (ix v1)) ≤ v4 then (fX10_judge_B85 v4 M)
  else gd (inb (((24 : Int32) * v1) + v4) 96) <|
  bd (fX10_seen v2 M) fun r11 M12 =>
  if (M 15 (ix (((24 : Int32) * v1) + v4))) = r11 then (bd (fX10_sheet1 v2 M12) fun r13 M14 =>
  q41 (v4 + 1) M14)
  else fX10_judge_B85 v4 M12
def fX10_judge_L41 (v1 : Int32) (v2 : Int32) : Nat → Int32 → Mm → Option (Int32 × Mm)
  | 0 => fun _ _ => none
  | n + 1 => fX10_judge_L41b v1 v2 (fX10_judge_L41 v1 v2 n)
theorem tX10_judge_L41b (l : Launch) (G : Gx) (v1 : Int32) (v2 : Int32) (q41 : Int32 → Mm → Option (Int32 × Mm)) (hq41 : ∀ (v4 : Int32) (M : Mm), Sim cQi l layM G 7 cX10_judge RX10 6 (some .int) 41 [(4, .int v4), (0, rf G 0), (1, .int v1), (2, .int v2)] [] M (q41 v4 M)) (v4 : Int32) (M : Mm) : Sim cQi l layM G 7 cX10_judge RX10 6 (some .int) 41 [(4, .int v4), (0, rf G 0), (1, .int v1), (2, .int v2)] [] M (fX10_judge_L41b v1 v2 q41 v4 M) := by
  unfold fX10_judge_L41b
  refine s_iload 0 dX10_judge_41 rfl ?_
  refine s_aload_n 1 dX10_judge_43 rfl rfl ?_
  refine g_X10_49 (q := 14) rfl rfl dX10_judge_44 ?_
  refine s_iload_n 2 dX10_judge_47 rfl rfl ?_
  refine s_gd fun h7 => ?_
  refine s_iald (n := 4) rfl h7 dX10_judge_48 ?_
  refine s_icmpge (tgt := 85) dX10_judge_49 (by decide) ?_ ?_
  · exact s_sub [0, 1] rfl (tX10_judge_B85 l G v4 M)
  · refine s_aload_n 1 dX10_judge_52 rfl rfl ?_
    refine g_X10_52 (q := 15) rfl rfl dX10_judge_53 ?_
    refine s_bipush (v := 24) dX10_judge_56 cb_24 ?_
    refine s_iload_n 2 dX10_judge_58 rfl rfl ?_
    refine s_imul dX10_judge_59 ?_
    refine s_iload 0 dX10_judge_60 rfl ?_
    refine s_iadd dX10_judge_62 ?_
    refine s_gd fun h10 => ?_
    refine s_iald (n := 96) rfl h10 dX10_judge_63 ?_
    refine s_aload_n 1 dX10_judge_64 rfl rfl ?_
    refine s_iload_n 3 dX10_judge_65 rfl rfl ?_
    refine s_call_i (s_runV (ci := 10) (rest := [.int (M 15 (ix (((24 : Int32) * v1) + v4)))]) rfl rfl (mX10_seen l G v2 M) ok_X10_seen k_X10_185 rfl rfl rfl rfl dX10_judge_66) fun r11 M12 => ?_
    refine s_icmpne (tgt := 85) dX10_judge_69 (by decide) ?_ ?_
    · exact s_sub [0, 1] rfl (tX10_judge_B85 l G v4 M12)
    · refine s_aload_n 1 dX10_judge_72 rfl rfl ?_
      refine s_iload_n 3 dX10_judge_73 rfl rfl ?_
      refine s_call_i (s_runV (ci := 10) (rest := []) rfl rfl (mX10_sheet1 l G v2 M12) ok_X10_sheet1 k_X10_191 rfl rfl rfl rfl dX10_judge_74) fun r13 M14 => ?_
      refine s_istore (lv' := [(5, .int r13), (4, .int v4), (0, rf G 0), (1, .int v1), (2, .int v2)]) dX10_judge_77 rfl rfl ?_
      refine s_iinc (k := 1) (lv' := [(4, .int (v4 + 1)), (5, .int r13), (0, rf G 0), (1, .int v1), (2, .int v2)]) dX10_judge_79 rfl ci_1 rfl rfl ?_
      refine s_goto (tgt := 41) dX10_judge_82 (by decide) ?_
      exact s_sub [0, 2, 3, 4] rfl (hq41 (v4 + 1) M14)
theorem tX10_judge_L41 (l : Launch) (G : Gx) (v1 : Int32) (v2 : Int32) : ∀ (n : Nat) (v4 : Int32) (M : Mm), Sim cQi l layM G 7 cX10_judge RX10 6 (some .int) 41 [(4, .int v4), (0, rf G 0), (1, .int v1), (2, .int v2)] [] M (fX10_judge_L41 v1 v2 n v4 M)
  | 0, _, _ => s_none
  | n + 1, v4, M => tX10_judge_L41b l G v1 v2 _ (tX10_judge_L41 l G v1 v2 n) v4 M
def fX10_judge_B16 (v1 : Int32) (v2 : Int32) (w0 : Int32) (M : Mm) : Option (Int32 × Mm) :=
  if w0 ≤ 0 then (bd (fX10_carry_1_3 M) fun r5 M6 =>
  fX10_judge_L41 v1 v2 FU (0 : Int32) M6)
  else bd (fX10_error w0 M) fun r15 M16 =>
  some (r15, M16)
theorem tX10_judge_B16 (l : Launch) (G : Gx) (v1 : Int32) (v2 : Int32) (w0 : Int32) (M : Mm) : Sim cQi l layM G 7 cX10_judge RX10 6 (some .int) 16 [(0, rf G 0), (1, .int v1), (2, .int v2)] [.int w0] M (fX10_judge_B16 v1 v2 w0 M) := by
  unfold fX10_judge_B16
  refine s_istore_n (lv' := [(3, .int w0), (0, rf G 0), (1, .int v1), (2, .int v2)]) dX10_judge_16 rfl rfl rfl ?_
  refine s_iload_n 0 dX10_judge_17 rfl rfl ?_
  refine s_ifle (tgt := 27) dX10_judge_18 (by decide) ?_ ?_
  · refine s_aload_n 1 dX10_judge_27 rfl rfl ?_
    refine g_X10_7 (q := 1) rfl rfl dX10_judge_28 ?_
    refine s_aload_n 1 dX10_judge_31 rfl rfl ?_
    refine g_X10_16 (q := 3) rfl rfl dX10_judge_32 ?_
    refine s_call_v (s_runS (rest := []) (mX10_carry_1_3 l G M) ok_X10_carry k_X10_194 rfl rfl rfl rfl dX10_judge_35) fun r5 M6 => ?_
    refine s_iconst (v := 0) dX10_judge_38 ci_0 ?_
    refine s_istore (lv' := [(4, .int (0 : Int32)), (3, .int w0), (0, rf G 0), (1, .int v1), (2, .int v2)]) dX10_judge_39 rfl rfl ?_
    exact s_sub [0, 2, 3, 4] rfl (tX10_judge_L41 l G v1 v2 FU (0 : Int32) M6)
  · refine s_aload_n 1 dX10_judge_21 rfl rfl ?_
    refine s_iload_n 0 dX10_judge_22 rfl rfl ?_
    refine s_call_i (s_runV (ci := 10) (rest := []) rfl rfl (mX10_error l G w0 M) ok_X10_error k_X10_75 rfl rfl rfl rfl dX10_judge_23) fun r15 M16 => ?_
    exact s_iret rfl dX10_judge_26
def fX10_judge (a1 : Int32) (a2 : Int32) (M : Mm) : Option (Int32 × Mm) :=
  bd (fX10_isPage a2 M) fun r1 M2 =>
  if r1 = true then (bd (fX10_lacks a1 M2) fun r3 M4 =>
  fX10_judge_B16 a1 a2 r3 M4)
  else fX10_judge_B16 a1 a2 (1 : Int32) M2
theorem mX10_judge (l : Launch) (G : Gx) (a1 : Int32) (a2 : Int32) (M : Mm) : Mt cQi l layM G 7 yX10_judge cX10_judge 6 (some .int) [rf G 0, .int a1, .int a2] M (fX10_judge a1 a2 M) := by
  refine Mt.of2 (own := RX10) (lv := [(0, rf G 0), (1, .int a1), (2, .int a2)]) rfl (by decide +kernel) rfl rfl ?_
  unfold fX10_judge
  refine s_iload_n 2 dX10_judge_0 rfl rfl ?_
  refine s_call_z (s_runS (rest := []) (mX10_isPage l G a2 M) ok_X10_isPage k_X10_182 rfl rfl rfl rfl dX10_judge_1) fun r1 M2 => ?_
  refine s_ifeqB (tgt := 15) dX10_judge_4 (by decide) ?_ ?_
  · refine s_iconst (v := 1) dX10_judge_15 ci_1 ?_
    exact s_sub [0, 1, 2] rfl (tX10_judge_B16 l G a1 a2 (1 : Int32) M2)
  · refine s_aload_n 0 dX10_judge_7 rfl rfl ?_
    refine s_iload_n 1 dX10_judge_8 rfl rfl ?_
    refine s_call_i (s_runV (ci := 10) (rest := []) rfl rfl (mX10_lacks l G a1 M2) ok_X10_lacks k_X10_269 rfl rfl rfl rfl dX10_judge_9) fun r3 M4 => ?_
    refine s_goto (tgt := 16) dX10_judge_12 (by decide) ?_
    exact s_sub [0, 1, 2] rfl (tX10_judge_B16 l G a1 a2 r3 M4)
theorem dX10_image_0 : decode cX10_image 0 = .ok (.aload_n 0, 1) := by decide +kernel
theorem dX10_image_1 : decode cX10_image 1 = .ok (.getfield 7, 3) := by decide +kernel
theorem dX10_image_4 : decode cX10_image 4 = .ok (.aload_n 0, 1) := by decide +kernel
theorem dX10_image_5 : decode cX10_image 5 = .ok (.getfield 13, 3) := by decide +kernel
theorem dX10_image_8 : decode cX10_image 8 = .ok (.invokestatic 194, 3) := by decide +kernel
theorem dX10_image_11 : decode cX10_image 11 = .ok (.aload_n 0, 1) := by decide +kernel
theorem dX10_image_12 : decode cX10_image 12 = .ok (.dup, 1) := by decide +kernel
theorem dX10_image_13 : decode cX10_image 13 = .ok (.getfield 272, 3) := by decide +kernel
theorem dX10_image_16 : decode cX10_image 16 = .ok (.iconst 1, 1) := by decide +kernel
theorem dX10_image_17 : decode cX10_image 17 = .ok (.iadd, 1) := by decide +kernel
theorem dX10_image_18 : decode cX10_image 18 = .ok (.putfield 272, 3) := by decide +kernel
theorem dX10_image_21 : decode cX10_image 21 = .ok (.aload_n 0, 1) := by decide +kernel
theorem dX10_image_22 : decode cX10_image 22 = .ok (.getfield 272, 3) := by decide +kernel
theorem dX10_image_25 : decode cX10_image 25 = .ok (.ireturn, 1) := by decide +kernel
def fX10_image  (M : Mm) : Option (Int32 × Mm) :=
  bd (fX10_carry_1_2 M) fun r1 M2 =>
  lt (wr M2 0 3 ((M2 0 3) + (1 : Int32))) fun M3 =>
  some (M3 0 3, M3)
theorem mX10_image (l : Launch) (G : Gx)  (M : Mm) : Mt cQi l layM G 2 yX10_image cX10_image 1 (some .int) [rf G 0] M (fX10_image M) := by
  refine Mt.of2 (own := RX10) (lv := [(0, rf G 0)]) rfl (by decide +kernel) rfl rfl ?_
  unfold fX10_image
  refine s_aload_n 0 dX10_image_0 rfl rfl ?_
  refine g_X10_7 (q := 1) rfl rfl dX10_image_1 ?_
  refine s_aload_n 0 dX10_image_4 rfl rfl ?_
  refine g_X10_13 (q := 2) rfl rfl dX10_image_5 ?_
  refine s_call_v (s_runS (rest := []) (mX10_carry_1_2 l G M) ok_X10_carry k_X10_194 rfl rfl rfl rfl dX10_image_8) fun r1 M2 => ?_
  refine s_aload_n 0 dX10_image_11 rfl rfl ?_
  refine s_dup dX10_image_12 rfl ?_
  refine g_X10_272 rfl dX10_image_13 ?_
  refine s_iconst (v := 1) dX10_image_16 ci_1 ?_
  refine s_iadd dX10_image_17 ?_
  refine p_X10_272 rfl dX10_image_18 ?_
  refine s_letM fun M3 => ?_
  refine s_aload_n 0 dX10_image_21 rfl rfl ?_
  refine g_X10_272 rfl dX10_image_22 ?_
  exact s_iret rfl dX10_image_25
theorem dX10_restore_0 : decode cX10_restore 0 = .ok (.aload_n 0, 1) := by decide +kernel
theorem dX10_restore_1 : decode cX10_restore 1 = .ok (.getfield 272, 3) := by decide +kernel
theorem dX10_restore_4 : decode cX10_restore 4 = .ok (.ifCond .ne 9, 3) := by decide +kernel
theorem dX10_restore_7 : decode cX10_restore 7 = .ok (.aload_n 0, 1) := by decide +kernel
theorem dX10_restore_8 : decode cX10_restore 8 = .ok (.iconst 2, 1) := by decide +kernel
theorem dX10_restore_9 : decode cX10_restore 9 = .ok (.invokevirtual 75, 3) := by decide +kernel
theorem dX10_restore_12 : decode cX10_restore 12 = .ok (.ireturn, 1) := by decide +kernel
theorem dX10_restore_13 : decode cX10_restore 13 = .ok (.aload_n 0, 1) := by decide +kernel
theorem dX10_restore_14 : decode cX10_restore 14 = .ok (.getfield 13, 3) := by decide +kernel
theorem dX10_restore_17 : decode cX10_restore 17 = .ok (.aload_n 0, 1) := by decide +kernel
theorem dX10_restore_18 : decode cX10_restore 18 = .ok (.getfield 7, 3) := by decide +kernel
theorem dX10_restore_21 : decode cX10_restore 21 = .ok (.invokestatic 194, 3) := by decide +kernel
theorem dX10_restore_24 : decode cX10_restore 24 = .ok (.aload_n 0, 1) := by decide +kernel
theorem dX10_restore_25 : decode cX10_restore 25 = .ok (.getfield 7, 3) := by decide +kernel
theorem dX10_restore_28 : decode cX10_restore 28 = .ok (.iconst 2, 1) := by decide +kernel
theorem dX10_restore_29 : decode cX10_restore 29 = .ok (.iaload, 1) := by decide +kernel
theorem dX10_restore_30 : decode cX10_restore 30 = .ok (.ireturn, 1) := by decide +kernel
def fX10_restore  (M : Mm) : Option (Int32 × Mm) :=
  if (M 0 3) = 0 then (bd (fX10_error (2 : Int32) M) fun r3 M4 =>
  some (r3, M4))
  else bd (fX10_carry_2_1 M) fun r1 M2 =>
  some (M2 1 (ix (2 : Int32)), M2)
theorem mX10_restore (l : Launch) (G : Gx)  (M : Mm) : Mt cQi l layM G 2 yX10_restore cX10_restore 1 (some .int) [rf G 0] M (fX10_restore M) := by
  refine Mt.of2 (own := RX10) (lv := [(0, rf G 0)]) rfl (by decide +kernel) rfl rfl ?_
  unfold fX10_restore
  refine s_aload_n 0 dX10_restore_0 rfl rfl ?_
  refine g_X10_272 rfl dX10_restore_1 ?_
  refine s_ifne (tgt := 13) dX10_restore_4 (by decide) ?_ ?_
  · refine s_aload_n 0 dX10_restore_13 rfl rfl ?_
    refine g_X10_13 (q := 2) rfl rfl dX10_restore_14 ?_
    refine s_aload_n 0 dX10_restore_17 rfl rfl ?_
    refine g_X10_7 (q := 1) rfl rfl dX10_restore_18 ?_
    refine s_call_v (s_runS (rest := []) (mX10_carry_2_1 l G M) ok_X10_carry k_X10_194 rfl rfl rfl rfl dX10_restore_21) fun r1 M2 => ?_
    refine s_aload_n 0 dX10_restore_24 rfl rfl ?_
    refine g_X10_7 (q := 1) rfl rfl dX10_restore_25 ?_
    refine s_iconst (v := 2) dX10_restore_28 ci_2 ?_
    refine s_iald (n := 626) rfl (by decide) dX10_restore_29 ?_
    exact s_iret rfl dX10_restore_30
  · refine s_aload_n 0 dX10_restore_7 rfl rfl ?_
    refine s_iconst (v := 2) dX10_restore_8 ci_2 ?_
    refine s_call_i (s_runV (ci := 10) (rest := []) rfl rfl (mX10_error l G (2 : Int32) M) ok_X10_error k_X10_75 rfl rfl rfl rfl dX10_restore_9) fun r3 M4 => ?_
    exact s_iret rfl dX10_restore_12
theorem dX10_tell_0 : decode cX10_tell 0 = .ok (.aload_n 0, 1) := by decide +kernel
theorem dX10_tell_1 : decode cX10_tell 1 = .ok (.getfield 7, 3) := by decide +kernel
theorem dX10_tell_4 : decode cX10_tell 4 = .ok (.bipush 6, 2) := by decide +kernel
theorem dX10_tell_6 : decode cX10_tell 6 = .ok (.iaload, 1) := by decide +kernel
theorem dX10_tell_7 : decode cX10_tell 7 = .ok (.bipush 24, 2) := by decide +kernel
theorem dX10_tell_9 : decode cX10_tell 9 = .ok (.if_icmp .ne 9, 3) := by decide +kernel
theorem dX10_tell_12 : decode cX10_tell 12 = .ok (.aload_n 0, 1) := by decide +kernel
theorem dX10_tell_13 : decode cX10_tell 13 = .ok (.iconst 4, 1) := by decide +kernel
theorem dX10_tell_14 : decode cX10_tell 14 = .ok (.invokevirtual 75, 3) := by decide +kernel
theorem dX10_tell_17 : decode cX10_tell 17 = .ok (.ireturn, 1) := by decide +kernel
theorem dX10_tell_18 : decode cX10_tell 18 = .ok (.aload_n 0, 1) := by decide +kernel
theorem dX10_tell_19 : decode cX10_tell 19 = .ok (.getfield 7, 3) := by decide +kernel
theorem dX10_tell_22 : decode cX10_tell 22 = .ok (.sipush 602, 3) := by decide +kernel
theorem dX10_tell_25 : decode cX10_tell 25 = .ok (.aload_n 0, 1) := by decide +kernel
theorem dX10_tell_26 : decode cX10_tell 26 = .ok (.getfield 7, 3) := by decide +kernel
theorem dX10_tell_29 : decode cX10_tell 29 = .ok (.bipush 6, 2) := by decide +kernel
theorem dX10_tell_31 : decode cX10_tell 31 = .ok (.iaload, 1) := by decide +kernel
theorem dX10_tell_32 : decode cX10_tell 32 = .ok (.iadd, 1) := by decide +kernel
theorem dX10_tell_33 : decode cX10_tell 33 = .ok (.iload_n 1, 1) := by decide +kernel
theorem dX10_tell_34 : decode cX10_tell 34 = .ok (.iastore, 1) := by decide +kernel
theorem dX10_tell_35 : decode cX10_tell 35 = .ok (.aload_n 0, 1) := by decide +kernel
theorem dX10_tell_36 : decode cX10_tell 36 = .ok (.getfield 7, 3) := by decide +kernel
theorem dX10_tell_39 : decode cX10_tell 39 = .ok (.bipush 6, 2) := by decide +kernel
theorem dX10_tell_41 : decode cX10_tell 41 = .ok (.dup2, 1) := by decide +kernel
theorem dX10_tell_42 : decode cX10_tell 42 = .ok (.iaload, 1) := by decide +kernel
theorem dX10_tell_43 : decode cX10_tell 43 = .ok (.iconst 1, 1) := by decide +kernel
theorem dX10_tell_44 : decode cX10_tell 44 = .ok (.iadd, 1) := by decide +kernel
theorem dX10_tell_45 : decode cX10_tell 45 = .ok (.iastore, 1) := by decide +kernel
theorem dX10_tell_46 : decode cX10_tell 46 = .ok (.aload_n 0, 1) := by decide +kernel
theorem dX10_tell_47 : decode cX10_tell 47 = .ok (.getfield 7, 3) := by decide +kernel
theorem dX10_tell_50 : decode cX10_tell 50 = .ok (.bipush 6, 2) := by decide +kernel
theorem dX10_tell_52 : decode cX10_tell 52 = .ok (.iaload, 1) := by decide +kernel
theorem dX10_tell_53 : decode cX10_tell 53 = .ok (.ireturn, 1) := by decide +kernel
def fX10_tell (a1 : Int32) (M : Mm) : Option (Int32 × Mm) :=
  if (M 1 (ix (6 : Int32))) = (24 : Int32) then (bd (fX10_error (4 : Int32) M) fun r4 M5 =>
  some (r4, M5))
  else gd (inb ((602 : Int32) + (M 1 (ix (6 : Int32)))) 626) <|
  lt (wr M 1 (ix ((602 : Int32) + (M 1 (ix (6 : Int32))))) a1) fun M2 =>
  lt (wr M2 1 (ix (6 : Int32)) ((M2 1 (ix (6 : Int32))) + (1 : Int32))) fun M3 =>
  some (M3 1 (ix (6 : Int32)), M3)
theorem mX10_tell (l : Launch) (G : Gx) (a1 : Int32) (M : Mm) : Mt cQi l layM G 2 yX10_tell cX10_tell 2 (some .int) [rf G 0, .int a1] M (fX10_tell a1 M) := by
  refine Mt.of2 (own := RX10) (lv := [(0, rf G 0), (1, .int a1)]) rfl (by decide +kernel) rfl rfl ?_
  unfold fX10_tell
  refine s_aload_n 0 dX10_tell_0 rfl rfl ?_
  refine g_X10_7 (q := 1) rfl rfl dX10_tell_1 ?_
  refine s_bipush (v := 6) dX10_tell_4 cb_6 ?_
  refine s_iald (n := 626) rfl (by decide) dX10_tell_6 ?_
  refine s_bipush (v := 24) dX10_tell_7 cb_24 ?_
  refine s_icmpne (tgt := 18) dX10_tell_9 (by decide) ?_ ?_
  · refine s_aload_n 0 dX10_tell_18 rfl rfl ?_
    refine g_X10_7 (q := 1) rfl rfl dX10_tell_19 ?_
    refine s_sipush (v := 602) dX10_tell_22 cs_602 ?_
    refine s_aload_n 0 dX10_tell_25 rfl rfl ?_
    refine g_X10_7 (q := 1) rfl rfl dX10_tell_26 ?_
    refine s_bipush (v := 6) dX10_tell_29 cb_6 ?_
    refine s_iald (n := 626) rfl (by decide) dX10_tell_31 ?_
    refine s_iadd dX10_tell_32 ?_
    refine s_iload_n 1 dX10_tell_33 rfl rfl ?_
    refine s_gd fun h1 => ?_
    refine s_iast (n := 626) rfl h1 dX10_tell_34 ?_
    refine s_letM fun M2 => ?_
    refine s_aload_n 0 dX10_tell_35 rfl rfl ?_
    refine g_X10_7 (q := 1) rfl rfl dX10_tell_36 ?_
    refine s_bipush (v := 6) dX10_tell_39 cb_6 ?_
    refine s_dup2 dX10_tell_41 rfl rfl ?_
    refine s_iald (n := 626) rfl (by decide) dX10_tell_42 ?_
    refine s_iconst (v := 1) dX10_tell_43 ci_1 ?_
    refine s_iadd dX10_tell_44 ?_
    refine s_iast (n := 626) rfl (by decide) dX10_tell_45 ?_
    refine s_letM fun M3 => ?_
    refine s_aload_n 0 dX10_tell_46 rfl rfl ?_
    refine g_X10_7 (q := 1) rfl rfl dX10_tell_47 ?_
    refine s_bipush (v := 6) dX10_tell_50 cb_6 ?_
    refine s_iald (n := 626) rfl (by decide) dX10_tell_52 ?_
    exact s_iret rfl dX10_tell_53
  · refine s_aload_n 0 dX10_tell_12 rfl rfl ?_
    refine s_iconst (v := 4) dX10_tell_13 ci_4 ?_
    refine s_call_i (s_runV (ci := 10) (rest := []) rfl rfl (mX10_error l G (4 : Int32) M) ok_X10_error k_X10_75 rfl rfl rfl rfl dX10_tell_14) fun r4 M5 => ?_
    exact s_iret rfl dX10_tell_17
theorem dX10_check_0 : decode cX10_check 0 = .ok (.aload_n 0, 1) := by decide +kernel
theorem dX10_check_1 : decode cX10_check 1 = .ok (.getfield 7, 3) := by decide +kernel
theorem dX10_check_4 : decode cX10_check 4 = .ok (.bipush 6, 2) := by decide +kernel
theorem dX10_check_6 : decode cX10_check 6 = .ok (.iaload, 1) := by decide +kernel
theorem dX10_check_7 : decode cX10_check 7 = .ok (.istore_n 2, 1) := by decide +kernel
theorem dX10_check_8 : decode cX10_check 8 = .ok (.aload_n 0, 1) := by decide +kernel
theorem dX10_check_9 : decode cX10_check 9 = .ok (.getfield 7, 3) := by decide +kernel
theorem dX10_check_12 : decode cX10_check 12 = .ok (.bipush 6, 2) := by decide +kernel
theorem dX10_check_14 : decode cX10_check 14 = .ok (.iconst 0, 1) := by decide +kernel
theorem dX10_check_15 : decode cX10_check 15 = .ok (.iastore, 1) := by decide +kernel
theorem dX10_check_16 : decode cX10_check 16 = .ok (.iload_n 1, 1) := by decide +kernel
theorem dX10_check_17 : decode cX10_check 17 = .ok (.invokestatic 182, 3) := by decide +kernel
theorem dX10_check_20 : decode cX10_check 20 = .ok (.ifCond .ne 9, 3) := by decide +kernel
theorem dX10_check_23 : decode cX10_check 23 = .ok (.aload_n 0, 1) := by decide +kernel
theorem dX10_check_24 : decode cX10_check 24 = .ok (.iconst 1, 1) := by decide +kernel
theorem dX10_check_25 : decode cX10_check 25 = .ok (.invokevirtual 75, 3) := by decide +kernel
theorem dX10_check_28 : decode cX10_check 28 = .ok (.ireturn, 1) := by decide +kernel
theorem dX10_check_29 : decode cX10_check 29 = .ok (.aload_n 0, 1) := by decide +kernel
theorem dX10_check_30 : decode cX10_check 30 = .ok (.iload_n 1, 1) := by decide +kernel
theorem dX10_check_31 : decode cX10_check 31 = .ok (.iconst 0, 1) := by decide +kernel
theorem dX10_check_32 : decode cX10_check 32 = .ok (.invokevirtual 153, 3) := by decide +kernel
theorem dX10_check_35 : decode cX10_check 35 = .ok (.istore_n 3, 1) := by decide +kernel
theorem dX10_check_36 : decode cX10_check 36 = .ok (.iconst 0, 1) := by decide +kernel
theorem dX10_check_37 : decode cX10_check 37 = .ok (.istore 4, 2) := by decide +kernel
theorem dX10_check_39 : decode cX10_check 39 = .ok (.iload 4, 2) := by decide +kernel
theorem dX10_check_41 : decode cX10_check 41 = .ok (.iload_n 2, 1) := by decide +kernel
theorem dX10_check_42 : decode cX10_check 42 = .ok (.if_icmp .ge 42, 3) := by decide +kernel
theorem dX10_check_45 : decode cX10_check 45 = .ok (.iload 4, 2) := by decide +kernel
theorem dX10_check_47 : decode cX10_check 47 = .ok (.iload_n 3, 1) := by decide +kernel
theorem dX10_check_48 : decode cX10_check 48 = .ok (.if_icmp .ge 36, 3) := by decide +kernel
theorem dX10_check_51 : decode cX10_check 51 = .ok (.aload_n 0, 1) := by decide +kernel
theorem dX10_check_52 : decode cX10_check 52 = .ok (.getfield 7, 3) := by decide +kernel
theorem dX10_check_55 : decode cX10_check 55 = .ok (.sipush 602, 3) := by decide +kernel
theorem dX10_check_58 : decode cX10_check 58 = .ok (.iload 4, 2) := by decide +kernel
theorem dX10_check_60 : decode cX10_check 60 = .ok (.iadd, 1) := by decide +kernel
theorem dX10_check_61 : decode cX10_check 61 = .ok (.iaload, 1) := by decide +kernel
theorem dX10_check_62 : decode cX10_check 62 = .ok (.aload_n 0, 1) := by decide +kernel
theorem dX10_check_63 : decode cX10_check 63 = .ok (.aload_n 0, 1) := by decide +kernel
theorem dX10_check_64 : decode cX10_check 64 = .ok (.iload_n 1, 1) := by decide +kernel
theorem dX10_check_65 : decode cX10_check 65 = .ok (.iconst 2, 1) := by decide +kernel
theorem dX10_check_66 : decode cX10_check 66 = .ok (.iload 4, 2) := by decide +kernel
theorem dX10_check_68 : decode cX10_check 68 = .ok (.iadd, 1) := by decide +kernel
theorem dX10_check_69 : decode cX10_check 69 = .ok (.invokevirtual 153, 3) := by decide +kernel
theorem dX10_check_72 : decode cX10_check 72 = .ok (.invokevirtual 159, 3) := by decide +kernel
theorem dX10_check_75 : decode cX10_check 75 = .ok (.if_icmp .ne 9, 3) := by decide +kernel
theorem dX10_check_78 : decode cX10_check 78 = .ok (.iinc 4 1, 3) := by decide +kernel
theorem dX10_check_81 : decode cX10_check 81 = .ok (.goto (-42), 3) := by decide +kernel
theorem dX10_check_84 : decode cX10_check 84 = .ok (.iload 4, 2) := by decide +kernel
theorem dX10_check_86 : decode cX10_check 86 = .ok (.iload_n 2, 1) := by decide +kernel
theorem dX10_check_87 : decode cX10_check 87 = .ok (.if_icmp .ne 13, 3) := by decide +kernel
theorem dX10_check_90 : decode cX10_check 90 = .ok (.iload 4, 2) := by decide +kernel
theorem dX10_check_92 : decode cX10_check 92 = .ok (.iload_n 3, 1) := by decide +kernel
theorem dX10_check_93 : decode cX10_check 93 = .ok (.if_icmp .ne 7, 3) := by decide +kernel
theorem dX10_check_96 : decode cX10_check 96 = .ok (.iconst 0, 1) := by decide +kernel
theorem dX10_check_97 : decode cX10_check 97 = .ok (.goto 7, 3) := by decide +kernel
theorem dX10_check_100 : decode cX10_check 100 = .ok (.iconst 1, 1) := by decide +kernel
theorem dX10_check_101 : decode cX10_check 101 = .ok (.iload 4, 2) := by decide +kernel
theorem dX10_check_103 : decode cX10_check 103 = .ok (.iadd, 1) := by decide +kernel
theorem dX10_check_104 : decode cX10_check 104 = .ok (.ireturn, 1) := by decide +kernel
def fX10_check_B104 (w0 : Int32) (M : Mm) : Option (Int32 × Mm) :=
  some (w0, M)
theorem tX10_check_B104 (l : Launch) (G : Gx) (w0 : Int32) (M : Mm) : Sim cQi l layM G 4 cX10_check RX10 5 (some .int) 104 [] [.int w0] M (fX10_check_B104 w0 M) := by
  unfold fX10_check_B104
  exact s_iret rfl dX10_check_104
def fX10_check_B100 (v4 : Int32) (M : Mm) : Option (Int32 × Mm) :=
  fX10_check_B104 ((1 : Int32) + v4) M
theorem tX10_check_B100 (l : Launch) (G : Gx) (v4 : Int32) (M : Mm) : Sim cQi l layM G 4 cX10_check RX10 5 (some .int) 100 [(4, .int v4)] [] M (fX10_check_B100 v4 M) := by
  unfold fX10_check_B100
  refine s_iconst (v := 1) dX10_check_100 ci_1 ?_
  refine s_iload 0 dX10_check_101 rfl ?_
  refine s_iadd dX10_check_103 ?_
  exact s_sub [] rfl (tX10_check_B104 l G ((1 : Int32) + v4) M)
def fX10_check_B84 (v4 : Int32) (v3 : Int32) (v2 : Int32) (M : Mm) : Option (Int32 × Mm) :=
  if v4 = v2 then (if v4 = v3 then (fX10_check_B104 (0 : Int32) M)
  else fX10_check_B100 v4 M)
  else fX10_check_B100 v4 M
theorem tX10_check_B84 (l : Launch) (G : Gx) (v4 : Int32) (v3 : Int32) (v2 : Int32) (M : Mm) : Sim cQi l layM G 4 cX10_check RX10 5 (some .int) 84 [(4, .int v4), (3, .int v3), (2, .int v2)] [] M (fX10_check_B84 v4 v3 v2 M) := by
  unfold fX10_check_B84
  refine s_iload 0 dX10_check_84 rfl ?_
  refine s_iload_n 2 dX10_check_86 rfl rfl ?_
  refine s_icmpne (tgt := 100) dX10_check_87 (by decide) ?_ ?_
  · exact s_sub [0] rfl (tX10_check_B100 l G v4 M)
  · refine s_iload 0 dX10_check_90 rfl ?_
    refine s_iload_n 1 dX10_check_92 rfl rfl ?_
    refine s_icmpne (tgt := 100) dX10_check_93 (by decide) ?_ ?_
    · exact s_sub [0] rfl (tX10_check_B100 l G v4 M)
    · refine s_iconst (v := 0) dX10_check_96 ci_0 ?_
      refine s_goto (tgt := 104) dX10_check_97 (by decide) ?_
      exact s_sub [] rfl (tX10_check_B104 l G (0 : Int32) M)
def fX10_check_L39b (v3 : Int32) (v2 : Int32) (v1 : Int32) (q39 : Int32 → Mm → Option (Int32 × Mm)) (v4 : Int32) (M : Mm) : Option (Int32 × Mm) :=
  if v2 ≤ v4 then (fX10_check_B84 v4 v3 v2 M)
  else if v3 ≤ v4 then (fX10_check_B84 v4 v3 v2 M)
  else gd (inb ((602 : Int32) + v4) 626) <|
  bd (fX10_of v1 ((2 : Int32) + v4) M) fun r10 M11 =>
  bd (fX10_sees r10 M11) fun r12 M13 =>
  if (M 1 (ix ((602 : Int32) + v4))) = r12 then (q39 (v4 + 1) M13)
  else fX10_check_B84 v4 v3 v2 M13
def fX10_check_L39 (v3 : Int32) (v2 : Int32) (v1 : Int32) : Nat → Int32 → Mm → Option (Int32 × Mm)
  | 0 => fun _ _ => none
  | n + 1 => fX10_check_L39b v3 v2 v1 (fX10_check_L39 v3 v2 v1 n)
theorem tX10_check_L39b (l : Launch) (G : Gx) (v3 : Int32) (v2 : Int32) (v1 : Int32) (q39 : Int32 → Mm → Option (Int32 × Mm)) (hq39 : ∀ (v4 : Int32) (M : Mm), Sim cQi l layM G 4 cX10_check RX10 5 (some .int) 39 [(4, .int v4), (3, .int v3), (2, .int v2), (0, rf G 0), (1, .int v1)] [] M (q39 v4 M)) (v4 : Int32) (M : Mm) : Sim cQi l layM G 4 cX10_check RX10 5 (some .int) 39 [(4, .int v4), (3, .int v3), (2, .int v2), (0, rf G 0), (1, .int v1)] [] M (fX10_check_L39b v3 v2 v1 q39 v4 M) := by
  unfold fX10_check_L39b
  refine s_iload 0 dX10_check_39 rfl ?_
  refine s_iload_n 2 dX10_check_41 rfl rfl ?_
  refine s_icmpge (tgt := 84) dX10_check_42 (by decide) ?_ ?_
  · exact s_sub [0, 1, 2] rfl (tX10_check_B84 l G v4 v3 v2 M)
  · refine s_iload 0 dX10_check_45 rfl ?_
    refine s_iload_n 1 dX10_check_47 rfl rfl ?_
    refine s_icmpge (tgt := 84) dX10_check_48 (by decide) ?_ ?_
    · exact s_sub [0, 1, 2] rfl (tX10_check_B84 l G v4 v3 v2 M)
    · refine s_aload_n 3 dX10_check_51 rfl rfl ?_
      refine g_X10_7 (q := 1) rfl rfl dX10_check_52 ?_
      refine s_sipush (v := 602) dX10_check_55 cs_602 ?_
      refine s_iload 0 dX10_check_58 rfl ?_
      refine s_iadd dX10_check_60 ?_
      refine s_gd fun h9 => ?_
      refine s_iald (n := 626) rfl h9 dX10_check_61 ?_
      refine s_aload_n 3 dX10_check_62 rfl rfl ?_
      refine s_aload_n 3 dX10_check_63 rfl rfl ?_
      refine s_iload_n 4 dX10_check_64 rfl rfl ?_
      refine s_iconst (v := 2) dX10_check_65 ci_2 ?_
      refine s_iload 0 dX10_check_66 rfl ?_
      refine s_iadd dX10_check_68 ?_
      refine s_call_i (s_runV (ci := 10) (rest := [rf G 0, .int (M 1 (ix ((602 : Int32) + v4)))]) rfl rfl (mX10_of l G v1 ((2 : Int32) + v4) M) ok_X10_of k_X10_153 rfl rfl rfl rfl dX10_check_69) fun r10 M11 => ?_
      refine s_call_i (s_runV (ci := 10) (rest := [.int (M 1 (ix ((602 : Int32) + v4)))]) rfl rfl (mX10_sees l G r10 M11) ok_X10_sees k_X10_159 rfl rfl rfl rfl dX10_check_72) fun r12 M13 => ?_
      refine s_icmpne (tgt := 84) dX10_check_75 (by decide) ?_ ?_
      · exact s_sub [0, 1, 2] rfl (tX10_check_B84 l G v4 v3 v2 M13)
      · refine s_iinc (k := 0) (lv' := [(4, .int (v4 + 1)), (3, .int v3), (2, .int v2), (0, rf G 0), (1, .int v1)]) dX10_check_78 rfl ci_1 rfl rfl ?_
        refine s_goto (tgt := 39) dX10_check_81 (by decide) ?_
        exact s_sub [0, 1, 2, 3, 4] rfl (hq39 (v4 + 1) M13)
theorem tX10_check_L39 (l : Launch) (G : Gx) (v3 : Int32) (v2 : Int32) (v1 : Int32) : ∀ (n : Nat) (v4 : Int32) (M : Mm), Sim cQi l layM G 4 cX10_check RX10 5 (some .int) 39 [(4, .int v4), (3, .int v3), (2, .int v2), (0, rf G 0), (1, .int v1)] [] M (fX10_check_L39 v3 v2 v1 n v4 M)
  | 0, _, _ => s_none
  | n + 1, v4, M => tX10_check_L39b l G v3 v2 v1 _ (tX10_check_L39 l G v3 v2 v1 n) v4 M
def fX10_check (a1 : Int32) (M : Mm) : Option (Int32 × Mm) :=
  lt (M 1 (ix (6 : Int32))) fun x1 =>
  lt (wr M 1 (ix (6 : Int32)) (0 : Int32)) fun M2 =>
  bd (fX10_isPage a1 M2) fun r3 M4 =>
  if r3 = true then (bd (fX10_of a1 (0 : Int32) M4) fun r7 M8 =>
  fX10_check_L39 r7 x1 a1 FU (0 : Int32) M8)
  else bd (fX10_error (1 : Int32) M4) fun r5 M6 =>
  some (r5, M6)
theorem mX10_check (l : Launch) (G : Gx) (a1 : Int32) (M : Mm) : Mt cQi l layM G 4 yX10_check cX10_check 5 (some .int) [rf G 0, .int a1] M (fX10_check a1 M) := by
  refine Mt.of2 (own := RX10) (lv := [(0, rf G 0), (1, .int a1)]) rfl (by decide +kernel) rfl rfl ?_
  unfold fX10_check
  refine s_aload_n 0 dX10_check_0 rfl rfl ?_
  refine g_X10_7 (q := 1) rfl rfl dX10_check_1 ?_
  refine s_bipush (v := 6) dX10_check_4 cb_6 ?_
  refine s_iald (n := 626) rfl (by decide) dX10_check_6 ?_
  refine s_leti fun x1 => ?_
  refine s_istore_n (lv' := [(2, .int x1), (0, rf G 0), (1, .int a1)]) dX10_check_7 rfl rfl rfl ?_
  refine s_aload_n 1 dX10_check_8 rfl rfl ?_
  refine g_X10_7 (q := 1) rfl rfl dX10_check_9 ?_
  refine s_bipush (v := 6) dX10_check_12 cb_6 ?_
  refine s_iconst (v := 0) dX10_check_14 ci_0 ?_
  refine s_iast (n := 626) rfl (by decide) dX10_check_15 ?_
  refine s_letM fun M2 => ?_
  refine s_iload_n 2 dX10_check_16 rfl rfl ?_
  refine s_call_z (s_runS (rest := []) (mX10_isPage l G a1 M2) ok_X10_isPage k_X10_182 rfl rfl rfl rfl dX10_check_17) fun r3 M4 => ?_
  refine s_ifneB (tgt := 29) dX10_check_20 (by decide) ?_ ?_
  · refine s_aload_n 1 dX10_check_29 rfl rfl ?_
    refine s_iload_n 2 dX10_check_30 rfl rfl ?_
    refine s_iconst (v := 0) dX10_check_31 ci_0 ?_
    refine s_call_i (s_runV (ci := 10) (rest := []) rfl rfl (mX10_of l G a1 (0 : Int32) M4) ok_X10_of k_X10_153 rfl rfl rfl rfl dX10_check_32) fun r7 M8 => ?_
    refine s_istore_n (lv' := [(3, .int r7), (2, .int x1), (0, rf G 0), (1, .int a1)]) dX10_check_35 rfl rfl rfl ?_
    refine s_iconst (v := 0) dX10_check_36 ci_0 ?_
    refine s_istore (lv' := [(4, .int (0 : Int32)), (3, .int r7), (2, .int x1), (0, rf G 0), (1, .int a1)]) dX10_check_37 rfl rfl ?_
    exact s_sub [0, 1, 2, 3, 4] rfl (tX10_check_L39 l G r7 x1 a1 FU (0 : Int32) M8)
  · refine s_aload_n 1 dX10_check_23 rfl rfl ?_
    refine s_iconst (v := 1) dX10_check_24 ci_1 ?_
    refine s_call_i (s_runV (ci := 10) (rest := []) rfl rfl (mX10_error l G (1 : Int32) M4) ok_X10_error k_X10_75 rfl rfl rfl rfl dX10_check_25) fun r5 M6 => ?_
    exact s_iret rfl dX10_check_28
theorem dX10_allIce_0 : decode cX10_allIce 0 = .ok (.iconst 0, 1) := by decide +kernel
theorem dX10_allIce_1 : decode cX10_allIce 1 = .ok (.istore_n 1, 1) := by decide +kernel
theorem dX10_allIce_2 : decode cX10_allIce 2 = .ok (.iconst 0, 1) := by decide +kernel
theorem dX10_allIce_3 : decode cX10_allIce 3 = .ok (.istore_n 2, 1) := by decide +kernel
theorem dX10_allIce_4 : decode cX10_allIce 4 = .ok (.iload_n 2, 1) := by decide +kernel
theorem dX10_allIce_5 : decode cX10_allIce 5 = .ok (.aload_n 0, 1) := by decide +kernel
theorem dX10_allIce_6 : decode cX10_allIce 6 = .ok (.getfield 7, 3) := by decide +kernel
theorem dX10_allIce_9 : decode cX10_allIce 9 = .ok (.iconst 0, 1) := by decide +kernel
theorem dX10_allIce_10 : decode cX10_allIce 10 = .ok (.iaload, 1) := by decide +kernel
theorem dX10_allIce_11 : decode cX10_allIce 11 = .ok (.if_icmp .ge 18, 3) := by decide +kernel
theorem dX10_allIce_14 : decode cX10_allIce 14 = .ok (.iload_n 1, 1) := by decide +kernel
theorem dX10_allIce_15 : decode cX10_allIce 15 = .ok (.aload_n 0, 1) := by decide +kernel
theorem dX10_allIce_16 : decode cX10_allIce 16 = .ok (.iload_n 2, 1) := by decide +kernel
theorem dX10_allIce_17 : decode cX10_allIce 17 = .ok (.iconst 3, 1) := by decide +kernel
theorem dX10_allIce_18 : decode cX10_allIce 18 = .ok (.invokevirtual 137, 3) := by decide +kernel
theorem dX10_allIce_21 : decode cX10_allIce 21 = .ok (.iadd, 1) := by decide +kernel
theorem dX10_allIce_22 : decode cX10_allIce 22 = .ok (.istore_n 1, 1) := by decide +kernel
theorem dX10_allIce_23 : decode cX10_allIce 23 = .ok (.iinc 2 1, 3) := by decide +kernel
theorem dX10_allIce_26 : decode cX10_allIce 26 = .ok (.goto (-22), 3) := by decide +kernel
theorem dX10_allIce_29 : decode cX10_allIce 29 = .ok (.iload_n 1, 1) := by decide +kernel
theorem dX10_allIce_30 : decode cX10_allIce 30 = .ok (.ireturn, 1) := by decide +kernel
def fX10_allIce_B29 (v1 : Int32) (M : Mm) : Option (Int32 × Mm) :=
  some (v1, M)
theorem tX10_allIce_B29 (l : Launch) (G : Gx) (v1 : Int32) (M : Mm) : Sim cQi l layM G 2 cX10_allIce RX10 3 (some .int) 29 [(1, .int v1)] [] M (fX10_allIce_B29 v1 M) := by
  unfold fX10_allIce_B29
  refine s_iload_n 0 dX10_allIce_29 rfl rfl ?_
  exact s_iret rfl dX10_allIce_30
def fX10_allIce_L4b (q4 : Int32 → Int32 → Mm → Option (Int32 × Mm)) (v2 : Int32) (v1 : Int32) (M : Mm) : Option (Int32 × Mm) :=
  if (M 1 (ix (0 : Int32))) ≤ v2 then (fX10_allIce_B29 v1 M)
  else bd (fX10_its v2 (3 : Int32) M) fun r1 M2 =>
  lt (v1 + r1) fun x3 =>
  q4 (v2 + 1) x3 M2
def fX10_allIce_L4  : Nat → Int32 → Int32 → Mm → Option (Int32 × Mm)
  | 0 => fun _ _ _ => none
  | n + 1 => fX10_allIce_L4b  (fX10_allIce_L4  n)
theorem tX10_allIce_L4b (l : Launch) (G : Gx) (q4 : Int32 → Int32 → Mm → Option (Int32 × Mm)) (hq4 : ∀ (v2 : Int32) (v1 : Int32) (M : Mm), Sim cQi l layM G 2 cX10_allIce RX10 3 (some .int) 4 [(2, .int v2), (1, .int v1), (0, rf G 0)] [] M (q4 v2 v1 M)) (v2 : Int32) (v1 : Int32) (M : Mm) : Sim cQi l layM G 2 cX10_allIce RX10 3 (some .int) 4 [(2, .int v2), (1, .int v1), (0, rf G 0)] [] M (fX10_allIce_L4b q4 v2 v1 M) := by
  unfold fX10_allIce_L4b
  refine s_iload_n 0 dX10_allIce_4 rfl rfl ?_
  refine s_aload_n 2 dX10_allIce_5 rfl rfl ?_
  refine g_X10_7 (q := 1) rfl rfl dX10_allIce_6 ?_
  refine s_iconst (v := 0) dX10_allIce_9 ci_0 ?_
  refine s_iald (n := 626) rfl (by decide) dX10_allIce_10 ?_
  refine s_icmpge (tgt := 29) dX10_allIce_11 (by decide) ?_ ?_
  · exact s_sub [1] rfl (tX10_allIce_B29 l G v1 M)
  · refine s_iload_n 1 dX10_allIce_14 rfl rfl ?_
    refine s_aload_n 2 dX10_allIce_15 rfl rfl ?_
    refine s_iload_n 0 dX10_allIce_16 rfl rfl ?_
    refine s_iconst (v := 3) dX10_allIce_17 ci_3 ?_
    refine s_call_i (s_runV (ci := 10) (rest := [.int v1]) rfl rfl (mX10_its l G v2 (3 : Int32) M) ok_X10_its k_X10_137 rfl rfl rfl rfl dX10_allIce_18) fun r1 M2 => ?_
    refine s_iadd dX10_allIce_21 ?_
    refine s_leti fun x3 => ?_
    refine s_istore_n (lv' := [(1, .int x3), (2, .int v2), (0, rf G 0)]) dX10_allIce_22 rfl rfl rfl ?_
    refine s_iinc (k := 1) (lv' := [(2, .int (v2 + 1)), (1, .int x3), (0, rf G 0)]) dX10_allIce_23 rfl ci_1 rfl rfl ?_
    refine s_goto (tgt := 4) dX10_allIce_26 (by decide) ?_
    exact s_sub [0, 1, 2] rfl (hq4 (v2 + 1) x3 M2)
theorem tX10_allIce_L4 (l : Launch) (G : Gx) : ∀ (n : Nat) (v2 : Int32) (v1 : Int32) (M : Mm), Sim cQi l layM G 2 cX10_allIce RX10 3 (some .int) 4 [(2, .int v2), (1, .int v1), (0, rf G 0)] [] M (fX10_allIce_L4 n v2 v1 M)
  | 0, _, _, _ => s_none
  | n + 1, v2, v1, M => tX10_allIce_L4b l G _ (tX10_allIce_L4 l G n) v2 v1 M
def fX10_allIce  (M : Mm) : Option (Int32 × Mm) :=
  fX10_allIce_L4 FU (0 : Int32) (0 : Int32) M
theorem mX10_allIce (l : Launch) (G : Gx)  (M : Mm) : Mt cQi l layM G 2 yX10_allIce cX10_allIce 3 (some .int) [rf G 0] M (fX10_allIce M) := by
  refine Mt.of2 (own := RX10) (lv := [(0, rf G 0)]) rfl (by decide +kernel) rfl rfl ?_
  unfold fX10_allIce
  refine s_iconst (v := 0) dX10_allIce_0 ci_0 ?_
  refine s_istore_n (lv' := [(1, .int (0 : Int32)), (0, rf G 0)]) dX10_allIce_1 rfl rfl rfl ?_
  refine s_iconst (v := 0) dX10_allIce_2 ci_0 ?_
  refine s_istore_n (lv' := [(2, .int (0 : Int32)), (1, .int (0 : Int32)), (0, rf G 0)]) dX10_allIce_3 rfl rfl rfl ?_
  exact s_sub [0, 1, 2] rfl (tX10_allIce_L4 l G FU (0 : Int32) (0 : Int32) M)
theorem dX10_count_0 : decode cX10_count 0 = .ok (.iload_n 1, 1) := by decide +kernel
theorem dX10_count_1 : decode cX10_count 1 = .ok (.tableswitch 123 0 9 #[55, 62, 69, 76, 83, 90, 95, 102, 110, 115], 55) := by decide +kernel
theorem dX10_count_56 : decode cX10_count 56 = .ok (.aload_n 0, 1) := by decide +kernel
theorem dX10_count_57 : decode cX10_count 57 = .ok (.getfield 7, 3) := by decide +kernel
theorem dX10_count_60 : decode cX10_count 60 = .ok (.iconst 0, 1) := by decide +kernel
theorem dX10_count_61 : decode cX10_count 61 = .ok (.iaload, 1) := by decide +kernel
theorem dX10_count_62 : decode cX10_count 62 = .ok (.ireturn, 1) := by decide +kernel
theorem dX10_count_63 : decode cX10_count 63 = .ok (.aload_n 0, 1) := by decide +kernel
theorem dX10_count_64 : decode cX10_count 64 = .ok (.getfield 7, 3) := by decide +kernel
theorem dX10_count_67 : decode cX10_count 67 = .ok (.iconst 1, 1) := by decide +kernel
theorem dX10_count_68 : decode cX10_count 68 = .ok (.iaload, 1) := by decide +kernel
theorem dX10_count_69 : decode cX10_count 69 = .ok (.ireturn, 1) := by decide +kernel
theorem dX10_count_70 : decode cX10_count 70 = .ok (.aload_n 0, 1) := by decide +kernel
theorem dX10_count_71 : decode cX10_count 71 = .ok (.getfield 7, 3) := by decide +kernel
theorem dX10_count_74 : decode cX10_count 74 = .ok (.iconst 2, 1) := by decide +kernel
theorem dX10_count_75 : decode cX10_count 75 = .ok (.iaload, 1) := by decide +kernel
theorem dX10_count_76 : decode cX10_count 76 = .ok (.ireturn, 1) := by decide +kernel
theorem dX10_count_77 : decode cX10_count 77 = .ok (.aload_n 0, 1) := by decide +kernel
theorem dX10_count_78 : decode cX10_count 78 = .ok (.getfield 7, 3) := by decide +kernel
theorem dX10_count_81 : decode cX10_count 81 = .ok (.iconst 3, 1) := by decide +kernel
theorem dX10_count_82 : decode cX10_count 82 = .ok (.iaload, 1) := by decide +kernel
theorem dX10_count_83 : decode cX10_count 83 = .ok (.ireturn, 1) := by decide +kernel
theorem dX10_count_84 : decode cX10_count 84 = .ok (.aload_n 0, 1) := by decide +kernel
theorem dX10_count_85 : decode cX10_count 85 = .ok (.getfield 7, 3) := by decide +kernel
theorem dX10_count_88 : decode cX10_count 88 = .ok (.iconst 4, 1) := by decide +kernel
theorem dX10_count_89 : decode cX10_count 89 = .ok (.iaload, 1) := by decide +kernel
theorem dX10_count_90 : decode cX10_count 90 = .ok (.ireturn, 1) := by decide +kernel
theorem dX10_count_91 : decode cX10_count 91 = .ok (.aload_n 0, 1) := by decide +kernel
theorem dX10_count_92 : decode cX10_count 92 = .ok (.invokevirtual 275, 3) := by decide +kernel
theorem dX10_count_95 : decode cX10_count 95 = .ok (.ireturn, 1) := by decide +kernel
theorem dX10_count_96 : decode cX10_count 96 = .ok (.aload_n 0, 1) := by decide +kernel
theorem dX10_count_97 : decode cX10_count 97 = .ok (.getfield 7, 3) := by decide +kernel
theorem dX10_count_100 : decode cX10_count 100 = .ok (.iconst 5, 1) := by decide +kernel
theorem dX10_count_101 : decode cX10_count 101 = .ok (.iaload, 1) := by decide +kernel
theorem dX10_count_102 : decode cX10_count 102 = .ok (.ireturn, 1) := by decide +kernel
theorem dX10_count_103 : decode cX10_count 103 = .ok (.aload_n 0, 1) := by decide +kernel
theorem dX10_count_104 : decode cX10_count 104 = .ok (.getfield 7, 3) := by decide +kernel
theorem dX10_count_107 : decode cX10_count 107 = .ok (.bipush 6, 2) := by decide +kernel
theorem dX10_count_109 : decode cX10_count 109 = .ok (.iaload, 1) := by decide +kernel
theorem dX10_count_110 : decode cX10_count 110 = .ok (.ireturn, 1) := by decide +kernel
theorem dX10_count_111 : decode cX10_count 111 = .ok (.aload_n 0, 1) := by decide +kernel
theorem dX10_count_112 : decode cX10_count 112 = .ok (.getfield 232, 3) := by decide +kernel
theorem dX10_count_115 : decode cX10_count 115 = .ok (.ireturn, 1) := by decide +kernel
theorem dX10_count_116 : decode cX10_count 116 = .ok (.aload_n 0, 1) := by decide +kernel
theorem dX10_count_117 : decode cX10_count 117 = .ok (.getfield 7, 3) := by decide +kernel
theorem dX10_count_120 : decode cX10_count 120 = .ok (.bipush 7, 2) := by decide +kernel
theorem dX10_count_122 : decode cX10_count 122 = .ok (.iaload, 1) := by decide +kernel
theorem dX10_count_123 : decode cX10_count 123 = .ok (.ireturn, 1) := by decide +kernel
theorem dX10_count_124 : decode cX10_count 124 = .ok (.iload_n 1, 1) := by decide +kernel
theorem dX10_count_125 : decode cX10_count 125 = .ok (.bipush 10, 2) := by decide +kernel
theorem dX10_count_127 : decode cX10_count 127 = .ok (.bipush 13, 2) := by decide +kernel
theorem dX10_count_129 : decode cX10_count 129 = .ok (.invokestatic 59, 3) := by decide +kernel
theorem dX10_count_132 : decode cX10_count 132 = .ok (.ifCond .eq 18, 3) := by decide +kernel
theorem dX10_count_135 : decode cX10_count 135 = .ok (.aload_n 0, 1) := by decide +kernel
theorem dX10_count_136 : decode cX10_count 136 = .ok (.getfield 7, 3) := by decide +kernel
theorem dX10_count_139 : decode cX10_count 139 = .ok (.bipush 8, 2) := by decide +kernel
theorem dX10_count_141 : decode cX10_count 141 = .ok (.iload_n 1, 1) := by decide +kernel
theorem dX10_count_142 : decode cX10_count 142 = .ok (.iadd, 1) := by decide +kernel
theorem dX10_count_143 : decode cX10_count 143 = .ok (.bipush 10, 2) := by decide +kernel
theorem dX10_count_145 : decode cX10_count 145 = .ok (.isub, 1) := by decide +kernel
theorem dX10_count_146 : decode cX10_count 146 = .ok (.iaload, 1) := by decide +kernel
theorem dX10_count_147 : decode cX10_count 147 = .ok (.goto 8, 3) := by decide +kernel
theorem dX10_count_150 : decode cX10_count 150 = .ok (.aload_n 0, 1) := by decide +kernel
theorem dX10_count_151 : decode cX10_count 151 = .ok (.iconst 1, 1) := by decide +kernel
theorem dX10_count_152 : decode cX10_count 152 = .ok (.invokevirtual 75, 3) := by decide +kernel
theorem dX10_count_155 : decode cX10_count 155 = .ok (.ireturn, 1) := by decide +kernel
