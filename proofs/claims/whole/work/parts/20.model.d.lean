theorem dX10_clearBy_0 : decode cX10_clearBy 0 = .ok (.aload_n 0, 1) := by decide +kernel
theorem dX10_clearBy_1 : decode cX10_clearBy 1 = .ok (.getfield 7, 3) := by decide +kernel
theorem dX10_clearBy_4 : decode cX10_clearBy 4 = .ok (.aload_n 0, 1) := by decide +kernel
theorem dX10_clearBy_5 : decode cX10_clearBy 5 = .ok (.getfield 16, 3) := by decide +kernel
theorem dX10_clearBy_8 : decode cX10_clearBy 8 = .ok (.invokestatic 194, 3) := by decide +kernel
theorem dX10_clearBy_11 : decode cX10_clearBy 11 = .ok (.iconst 0, 1) := by decide +kernel
theorem dX10_clearBy_12 : decode cX10_clearBy 12 = .ok (.istore_n 2, 1) := by decide +kernel
theorem dX10_clearBy_13 : decode cX10_clearBy 13 = .ok (.iconst 0, 1) := by decide +kernel
theorem dX10_clearBy_14 : decode cX10_clearBy 14 = .ok (.istore_n 3, 1) := by decide +kernel
theorem dX10_clearBy_15 : decode cX10_clearBy 15 = .ok (.iload_n 3, 1) := by decide +kernel
theorem dX10_clearBy_16 : decode cX10_clearBy 16 = .ok (.aload_n 0, 1) := by decide +kernel
theorem dX10_clearBy_17 : decode cX10_clearBy 17 = .ok (.getfield 204, 3) := by decide +kernel
theorem dX10_clearBy_20 : decode cX10_clearBy 20 = .ok (.if_icmp .ge 70, 3) := by decide +kernel
theorem dX10_clearBy_23 : decode cX10_clearBy 23 = .ok (.iconst 0, 1) := by decide +kernel
theorem dX10_clearBy_24 : decode cX10_clearBy 24 = .ok (.istore 4, 2) := by decide +kernel
theorem dX10_clearBy_26 : decode cX10_clearBy 26 = .ok (.iload 4, 2) := by decide +kernel
theorem dX10_clearBy_28 : decode cX10_clearBy 28 = .ok (.iload_n 1, 1) := by decide +kernel
theorem dX10_clearBy_29 : decode cX10_clearBy 29 = .ok (.if_icmp .ge 55, 3) := by decide +kernel
theorem dX10_clearBy_32 : decode cX10_clearBy 32 = .ok (.iload_n 2, 1) := by decide +kernel
theorem dX10_clearBy_33 : decode cX10_clearBy 33 = .ok (.aload_n 0, 1) := by decide +kernel
theorem dX10_clearBy_34 : decode cX10_clearBy 34 = .ok (.aload_n 0, 1) := by decide +kernel
theorem dX10_clearBy_35 : decode cX10_clearBy 35 = .ok (.getfield 34, 3) := by decide +kernel
theorem dX10_clearBy_38 : decode cX10_clearBy 38 = .ok (.iload_n 3, 1) := by decide +kernel
theorem dX10_clearBy_39 : decode cX10_clearBy 39 = .ok (.iaload, 1) := by decide +kernel
theorem dX10_clearBy_40 : decode cX10_clearBy 40 = .ok (.invokevirtual 191, 3) := by decide +kernel
theorem dX10_clearBy_43 : decode cX10_clearBy 43 = .ok (.iadd, 1) := by decide +kernel
theorem dX10_clearBy_44 : decode cX10_clearBy 44 = .ok (.istore_n 2, 1) := by decide +kernel
theorem dX10_clearBy_45 : decode cX10_clearBy 45 = .ok (.iconst 0, 1) := by decide +kernel
theorem dX10_clearBy_46 : decode cX10_clearBy 46 = .ok (.istore 5, 2) := by decide +kernel
theorem dX10_clearBy_48 : decode cX10_clearBy 48 = .ok (.iload 5, 2) := by decide +kernel
theorem dX10_clearBy_50 : decode cX10_clearBy 50 = .ok (.iconst 4, 1) := by decide +kernel
theorem dX10_clearBy_51 : decode cX10_clearBy 51 = .ok (.if_icmp .ge 27, 3) := by decide +kernel
theorem dX10_clearBy_54 : decode cX10_clearBy 54 = .ok (.iload 5, 2) := by decide +kernel
theorem dX10_clearBy_56 : decode cX10_clearBy 56 = .ok (.aload_n 0, 1) := by decide +kernel
theorem dX10_clearBy_57 : decode cX10_clearBy 57 = .ok (.getfield 34, 3) := by decide +kernel
theorem dX10_clearBy_60 : decode cX10_clearBy 60 = .ok (.iload_n 3, 1) := by decide +kernel
theorem dX10_clearBy_61 : decode cX10_clearBy 61 = .ok (.iaload, 1) := by decide +kernel
theorem dX10_clearBy_62 : decode cX10_clearBy 62 = .ok (.if_icmp .eq 10, 3) := by decide +kernel
theorem dX10_clearBy_65 : decode cX10_clearBy 65 = .ok (.aload_n 0, 1) := by decide +kernel
theorem dX10_clearBy_66 : decode cX10_clearBy 66 = .ok (.iload 5, 2) := by decide +kernel
theorem dX10_clearBy_68 : decode cX10_clearBy 68 = .ok (.iconst 0, 1) := by decide +kernel
theorem dX10_clearBy_69 : decode cX10_clearBy 69 = .ok (.invokevirtual 188, 3) := by decide +kernel
theorem dX10_clearBy_72 : decode cX10_clearBy 72 = .ok (.iinc 5 1, 3) := by decide +kernel
theorem dX10_clearBy_75 : decode cX10_clearBy 75 = .ok (.goto (-27), 3) := by decide +kernel
theorem dX10_clearBy_78 : decode cX10_clearBy 78 = .ok (.iinc 4 1, 3) := by decide +kernel
theorem dX10_clearBy_81 : decode cX10_clearBy 81 = .ok (.goto (-55), 3) := by decide +kernel
theorem dX10_clearBy_84 : decode cX10_clearBy 84 = .ok (.iinc 3 1, 3) := by decide +kernel
theorem dX10_clearBy_87 : decode cX10_clearBy 87 = .ok (.goto (-72), 3) := by decide +kernel
theorem dX10_clearBy_90 : decode cX10_clearBy 90 = .ok (.aload_n 0, 1) := by decide +kernel
theorem dX10_clearBy_91 : decode cX10_clearBy 91 = .ok (.getfield 16, 3) := by decide +kernel
theorem dX10_clearBy_94 : decode cX10_clearBy 94 = .ok (.aload_n 0, 1) := by decide +kernel
theorem dX10_clearBy_95 : decode cX10_clearBy 95 = .ok (.getfield 7, 3) := by decide +kernel
theorem dX10_clearBy_98 : decode cX10_clearBy 98 = .ok (.invokestatic 194, 3) := by decide +kernel
theorem dX10_clearBy_101 : decode cX10_clearBy 101 = .ok (.iload_n 2, 1) := by decide +kernel
theorem dX10_clearBy_102 : decode cX10_clearBy 102 = .ok (.ireturn, 1) := by decide +kernel
def fX10_clearBy_B90 (v2 : Int32) (M : Mm) : Option (Int32 × Mm) :=
  bd (fX10_carry_3_1 M) fun r3 M4 =>
  some (v2, M4)
theorem tX10_clearBy_B90 (l : Launch) (G : Gx) (v2 : Int32) (M : Mm) : Sim cQi l layM G 7 cX10_clearBy RX10 6 (some .int) 90 [(2, .int v2), (0, rf G 0)] [] M (fX10_clearBy_B90 v2 M) := by
  unfold fX10_clearBy_B90
  refine s_aload_n 1 dX10_clearBy_90 rfl rfl ?_
  refine g_X10_16 (q := 3) rfl rfl dX10_clearBy_91 ?_
  refine s_aload_n 1 dX10_clearBy_94 rfl rfl ?_
  refine g_X10_7 (q := 1) rfl rfl dX10_clearBy_95 ?_
  refine s_call_v (s_runS (rest := []) (mX10_carry_3_1 l G M) ok_X10_carry k_X10_194 rfl rfl rfl rfl dX10_clearBy_98) fun r3 M4 => ?_
  refine s_iload_n 0 dX10_clearBy_101 rfl rfl ?_
  exact s_iret rfl dX10_clearBy_102
def fX10_clearBy_B84 (q15 : Int32 → Int32 → Mm → Option (Int32 × Mm)) (v3 : Int32) (v2 : Int32) (v1 : Int32) (M : Mm) : Option (Int32 × Mm) :=
  q15 (v3 + 1) v2 M
theorem tX10_clearBy_B84 (l : Launch) (G : Gx) (v3 : Int32) (v2 : Int32) (v1 : Int32) (q15 : Int32 → Int32 → Mm → Option (Int32 × Mm)) (hq15 : ∀ (v3 : Int32) (v2 : Int32) (M : Mm), Sim cQi l layM G 7 cX10_clearBy RX10 6 (some .int) 15 [(3, .int v3), (2, .int v2), (0, rf G 0), (1, .int v1)] [] M (q15 v3 v2 M)) (M : Mm) : Sim cQi l layM G 7 cX10_clearBy RX10 6 (some .int) 84 [(3, .int v3), (2, .int v2), (0, rf G 0), (1, .int v1)] [] M (fX10_clearBy_B84 q15 v3 v2 v1 M) := by
  unfold fX10_clearBy_B84
  refine s_iinc (k := 0) (lv' := [(3, .int (v3 + 1)), (2, .int v2), (0, rf G 0), (1, .int v1)]) dX10_clearBy_84 rfl ci_1 rfl rfl ?_
  refine s_goto (tgt := 15) dX10_clearBy_87 (by decide) ?_
  exact s_sub [0, 1, 2, 3] rfl (hq15 (v3 + 1) v2 M)
def fX10_clearBy_B78 (q15 : Int32 → Int32 → Mm → Option (Int32 × Mm)) (q26 : Int32 → Int32 → Mm → Option (Int32 × Mm)) (v2 : Int32) (v4 : Int32) (v3 : Int32) (v1 : Int32) (M : Mm) : Option (Int32 × Mm) :=
  q26 (v4 + 1) v2 M
theorem tX10_clearBy_B78 (l : Launch) (G : Gx) (v2 : Int32) (v4 : Int32) (v3 : Int32) (v1 : Int32) (q15 : Int32 → Int32 → Mm → Option (Int32 × Mm))  (q26 : Int32 → Int32 → Mm → Option (Int32 × Mm)) (hq15 : ∀ (v3 : Int32) (v2 : Int32) (M : Mm), Sim cQi l layM G 7 cX10_clearBy RX10 6 (some .int) 15 [(3, .int v3), (2, .int v2), (0, rf G 0), (1, .int v1)] [] M (q15 v3 v2 M)) (hq26 : ∀ (v4 : Int32) (v2 : Int32) (M : Mm), Sim cQi l layM G 7 cX10_clearBy RX10 6 (some .int) 26 [(4, .int v4), (3, .int v3), (2, .int v2), (0, rf G 0), (1, .int v1)] [] M (q26 v4 v2 M)) (M : Mm) : Sim cQi l layM G 7 cX10_clearBy RX10 6 (some .int) 78 [(2, .int v2), (4, .int v4), (3, .int v3), (0, rf G 0), (1, .int v1)] [] M (fX10_clearBy_B78 q15 q26 v2 v4 v3 v1 M) := by
  unfold fX10_clearBy_B78
  refine s_iinc (k := 1) (lv' := [(4, .int (v4 + 1)), (2, .int v2), (3, .int v3), (0, rf G 0), (1, .int v1)]) dX10_clearBy_78 rfl ci_1 rfl rfl ?_
  refine s_goto (tgt := 26) dX10_clearBy_81 (by decide) ?_
  exact s_sub [0, 2, 1, 3, 4] rfl (hq26 (v4 + 1) v2 M)
def fX10_clearBy_B72 (q15 : Int32 → Int32 → Mm → Option (Int32 × Mm)) (q26 : Int32 → Int32 → Mm → Option (Int32 × Mm)) (q48 : Int32 → Mm → Option (Int32 × Mm)) (v5 : Int32) (v2 : Int32) (v4 : Int32) (v3 : Int32) (v1 : Int32) (M : Mm) : Option (Int32 × Mm) :=
  q48 (v5 + 1) M
theorem tX10_clearBy_B72 (l : Launch) (G : Gx) (v5 : Int32) (v2 : Int32) (v4 : Int32) (v3 : Int32) (v1 : Int32) (q15 : Int32 → Int32 → Mm → Option (Int32 × Mm))  (q26 : Int32 → Int32 → Mm → Option (Int32 × Mm))  (q48 : Int32 → Mm → Option (Int32 × Mm)) (hq15 : ∀ (v3 : Int32) (v2 : Int32) (M : Mm), Sim cQi l layM G 7 cX10_clearBy RX10 6 (some .int) 15 [(3, .int v3), (2, .int v2), (0, rf G 0), (1, .int v1)] [] M (q15 v3 v2 M)) (hq26 : ∀ (v4 : Int32) (v2 : Int32) (M : Mm), Sim cQi l layM G 7 cX10_clearBy RX10 6 (some .int) 26 [(4, .int v4), (3, .int v3), (2, .int v2), (0, rf G 0), (1, .int v1)] [] M (q26 v4 v2 M)) (hq48 : ∀ (v5 : Int32) (M : Mm), Sim cQi l layM G 7 cX10_clearBy RX10 6 (some .int) 48 [(5, .int v5), (2, .int v2), (4, .int v4), (3, .int v3), (0, rf G 0), (1, .int v1)] [] M (q48 v5 M)) (M : Mm) : Sim cQi l layM G 7 cX10_clearBy RX10 6 (some .int) 72 [(5, .int v5), (2, .int v2), (4, .int v4), (3, .int v3), (0, rf G 0), (1, .int v1)] [] M (fX10_clearBy_B72 q15 q26 q48 v5 v2 v4 v3 v1 M) := by
  unfold fX10_clearBy_B72
  refine s_iinc (k := 0) (lv' := [(5, .int (v5 + 1)), (2, .int v2), (4, .int v4), (3, .int v3), (0, rf G 0), (1, .int v1)]) dX10_clearBy_72 rfl ci_1 rfl rfl ?_
  refine s_goto (tgt := 48) dX10_clearBy_75 (by decide) ?_
  exact s_sub [0, 1, 2, 3, 4, 5] rfl (hq48 (v5 + 1) M)
def fX10_clearBy_L48b (q15 : Int32 → Int32 → Mm → Option (Int32 × Mm)) (q26 : Int32 → Int32 → Mm → Option (Int32 × Mm)) (v2 : Int32) (v4 : Int32) (v3 : Int32) (v1 : Int32) (q48 : Int32 → Mm → Option (Int32 × Mm)) (v5 : Int32) (M : Mm) : Option (Int32 × Mm) :=
  if (4 : Int32) ≤ v5 then (fX10_clearBy_B78 q15 q26 v2 v4 v3 v1 M)
  else gd (inb v3 4) <|
  if v5 = (M 9 (ix v3)) then (fX10_clearBy_B72 q15 q26 q48 v5 v2 v4 v3 v1 M)
  else bd (fX10_meltsAll v5 (0 : Int32) M) fun r10 M11 =>
  fX10_clearBy_B72 q15 q26 q48 v5 v2 v4 v3 v1 M11
def fX10_clearBy_L48 (q15 : Int32 → Int32 → Mm → Option (Int32 × Mm)) (q26 : Int32 → Int32 → Mm → Option (Int32 × Mm)) (v2 : Int32) (v4 : Int32) (v3 : Int32) (v1 : Int32) : Nat → Int32 → Mm → Option (Int32 × Mm)
  | 0 => fun _ _ => none
  | n + 1 => fX10_clearBy_L48b q15 q26 v2 v4 v3 v1 (fX10_clearBy_L48 q15 q26 v2 v4 v3 v1 n)
theorem tX10_clearBy_L48b (l : Launch) (G : Gx) (v2 : Int32) (v4 : Int32) (v3 : Int32) (v1 : Int32) (q15 : Int32 → Int32 → Mm → Option (Int32 × Mm))  (q26 : Int32 → Int32 → Mm → Option (Int32 × Mm)) (hq15 : ∀ (v3 : Int32) (v2 : Int32) (M : Mm), Sim cQi l layM G 7 cX10_clearBy RX10 6 (some .int) 15 [(3, .int v3), (2, .int v2), (0, rf G 0), (1, .int v1)] [] M (q15 v3 v2 M)) (hq26 : ∀ (v4 : Int32) (v2 : Int32) (M : Mm), Sim cQi l layM G 7 cX10_clearBy RX10 6 (some .int) 26 [(4, .int v4), (3, .int v3), (2, .int v2), (0, rf G 0), (1, .int v1)] [] M (q26 v4 v2 M)) (q48 : Int32 → Mm → Option (Int32 × Mm)) (hq48 : ∀ (v5 : Int32) (M : Mm), Sim cQi l layM G 7 cX10_clearBy RX10 6 (some .int) 48 [(5, .int v5), (2, .int v2), (4, .int v4), (3, .int v3), (0, rf G 0), (1, .int v1)] [] M (q48 v5 M)) (v5 : Int32) (M : Mm) : Sim cQi l layM G 7 cX10_clearBy RX10 6 (some .int) 48 [(5, .int v5), (2, .int v2), (4, .int v4), (3, .int v3), (0, rf G 0), (1, .int v1)] [] M (fX10_clearBy_L48b q15 q26 v2 v4 v3 v1 q48 v5 M) := by
  unfold fX10_clearBy_L48b
  refine s_iload 0 dX10_clearBy_48 rfl ?_
  refine s_iconst (v := 4) dX10_clearBy_50 ci_4 ?_
  refine s_icmpge (tgt := 78) dX10_clearBy_51 (by decide) ?_ ?_
  · exact s_sub [1, 2, 3, 4, 5] rfl (tX10_clearBy_B78 l G v2 v4 v3 v1 q15 q26 hq15 hq26 M)
  · refine s_iload 0 dX10_clearBy_54 rfl ?_
    refine s_aload_n 4 dX10_clearBy_56 rfl rfl ?_
    refine g_X10_34 (q := 9) rfl rfl dX10_clearBy_57 ?_
    refine s_iload_n 3 dX10_clearBy_60 rfl rfl ?_
    refine s_gd fun h9 => ?_
    refine s_iald (n := 4) rfl h9 dX10_clearBy_61 ?_
    refine s_icmpeq (tgt := 72) dX10_clearBy_62 (by decide) ?_ ?_
    · exact s_sub [0, 1, 2, 3, 4, 5] rfl (tX10_clearBy_B72 l G v5 v2 v4 v3 v1 q15 q26 q48 hq15 hq26 hq48 M)
    · refine s_aload_n 4 dX10_clearBy_65 rfl rfl ?_
      refine s_iload 0 dX10_clearBy_66 rfl ?_
      refine s_iconst (v := 0) dX10_clearBy_68 ci_0 ?_
      refine s_call_v (s_runV (ci := 10) (rest := []) rfl rfl (mX10_meltsAll l G v5 (0 : Int32) M) ok_X10_meltsAll k_X10_188 rfl rfl rfl rfl dX10_clearBy_69) fun r10 M11 => ?_
      exact s_sub [0, 1, 2, 3, 4, 5] rfl (tX10_clearBy_B72 l G v5 v2 v4 v3 v1 q15 q26 q48 hq15 hq26 hq48 M11)
theorem tX10_clearBy_L48 (l : Launch) (G : Gx) (v2 : Int32) (v4 : Int32) (v3 : Int32) (v1 : Int32) (q15 : Int32 → Int32 → Mm → Option (Int32 × Mm))  (q26 : Int32 → Int32 → Mm → Option (Int32 × Mm)) (hq15 : ∀ (v3 : Int32) (v2 : Int32) (M : Mm), Sim cQi l layM G 7 cX10_clearBy RX10 6 (some .int) 15 [(3, .int v3), (2, .int v2), (0, rf G 0), (1, .int v1)] [] M (q15 v3 v2 M)) (hq26 : ∀ (v4 : Int32) (v2 : Int32) (M : Mm), Sim cQi l layM G 7 cX10_clearBy RX10 6 (some .int) 26 [(4, .int v4), (3, .int v3), (2, .int v2), (0, rf G 0), (1, .int v1)] [] M (q26 v4 v2 M)) : ∀ (n : Nat) (v5 : Int32) (M : Mm), Sim cQi l layM G 7 cX10_clearBy RX10 6 (some .int) 48 [(5, .int v5), (2, .int v2), (4, .int v4), (3, .int v3), (0, rf G 0), (1, .int v1)] [] M (fX10_clearBy_L48 q15 q26 v2 v4 v3 v1 n v5 M)
  | 0, _, _ => s_none
  | n + 1, v5, M => tX10_clearBy_L48b l G v2 v4 v3 v1 q15 q26 hq15 hq26 _ (tX10_clearBy_L48 l G v2 v4 v3 v1 q15 q26 hq15 hq26 n) v5 M
def fX10_clearBy_L26b (q15 : Int32 → Int32 → Mm → Option (Int32 × Mm)) (v3 : Int32) (v1 : Int32) (q26 : Int32 → Int32 → Mm → Option (Int32 × Mm)) (v4 : Int32) (v2 : Int32) (M : Mm) : Option (Int32 × Mm) :=
  if v1 ≤ v4 then (fX10_clearBy_B84 q15 v3 v2 v1 M)
  else gd (inb v3 4) <|
  bd (fX10_sheet1 (M 9 (ix v3)) M) fun r6 M7 =>
  lt (v2 + r6) fun x8 =>
  fX10_clearBy_L48 q15 q26 x8 v4 v3 v1 FU (0 : Int32) M7
def fX10_clearBy_L26 (q15 : Int32 → Int32 → Mm → Option (Int32 × Mm)) (v3 : Int32) (v1 : Int32) : Nat → Int32 → Int32 → Mm → Option (Int32 × Mm)
  | 0 => fun _ _ _ => none
  | n + 1 => fX10_clearBy_L26b q15 v3 v1 (fX10_clearBy_L26 q15 v3 v1 n)
theorem tX10_clearBy_L26b (l : Launch) (G : Gx) (v3 : Int32) (v1 : Int32) (q15 : Int32 → Int32 → Mm → Option (Int32 × Mm)) (hq15 : ∀ (v3 : Int32) (v2 : Int32) (M : Mm), Sim cQi l layM G 7 cX10_clearBy RX10 6 (some .int) 15 [(3, .int v3), (2, .int v2), (0, rf G 0), (1, .int v1)] [] M (q15 v3 v2 M)) (q26 : Int32 → Int32 → Mm → Option (Int32 × Mm)) (hq26 : ∀ (v4 : Int32) (v2 : Int32) (M : Mm), Sim cQi l layM G 7 cX10_clearBy RX10 6 (some .int) 26 [(4, .int v4), (3, .int v3), (2, .int v2), (0, rf G 0), (1, .int v1)] [] M (q26 v4 v2 M)) (v4 : Int32) (v2 : Int32) (M : Mm) : Sim cQi l layM G 7 cX10_clearBy RX10 6 (some .int) 26 [(4, .int v4), (3, .int v3), (2, .int v2), (0, rf G 0), (1, .int v1)] [] M (fX10_clearBy_L26b q15 v3 v1 q26 v4 v2 M) := by
  unfold fX10_clearBy_L26b
  refine s_iload 0 dX10_clearBy_26 rfl ?_
  refine s_iload_n 4 dX10_clearBy_28 rfl rfl ?_
  refine s_icmpge (tgt := 84) dX10_clearBy_29 (by decide) ?_ ?_
  · exact s_sub [1, 2, 3, 4] rfl (tX10_clearBy_B84 l G v3 v2 v1 q15 hq15 M)
  · refine s_iload_n 2 dX10_clearBy_32 rfl rfl ?_
    refine s_aload_n 3 dX10_clearBy_33 rfl rfl ?_
    refine s_aload_n 3 dX10_clearBy_34 rfl rfl ?_
    refine g_X10_34 (q := 9) rfl rfl dX10_clearBy_35 ?_
    refine s_iload_n 1 dX10_clearBy_38 rfl rfl ?_
    refine s_gd fun h5 => ?_
    refine s_iald (n := 4) rfl h5 dX10_clearBy_39 ?_
    refine s_call_i (s_runV (ci := 10) (rest := [.int v2]) rfl rfl (mX10_sheet1 l G (M 9 (ix v3)) M) ok_X10_sheet1 k_X10_191 rfl rfl rfl rfl dX10_clearBy_40) fun r6 M7 => ?_
    refine s_iadd dX10_clearBy_43 ?_
    refine s_leti fun x8 => ?_
    refine s_istore_n (lv' := [(2, .int x8), (4, .int v4), (3, .int v3), (0, rf G 0), (1, .int v1)]) dX10_clearBy_44 rfl rfl rfl ?_
    refine s_iconst (v := 0) dX10_clearBy_45 ci_0 ?_
    refine s_istore (lv' := [(5, .int (0 : Int32)), (2, .int x8), (4, .int v4), (3, .int v3), (0, rf G 0), (1, .int v1)]) dX10_clearBy_46 rfl rfl ?_
    exact s_sub [0, 1, 2, 3, 4, 5] rfl (tX10_clearBy_L48 l G x8 v4 v3 v1 q15 q26 hq15 hq26 FU (0 : Int32) M7)
theorem tX10_clearBy_L26 (l : Launch) (G : Gx) (v3 : Int32) (v1 : Int32) (q15 : Int32 → Int32 → Mm → Option (Int32 × Mm)) (hq15 : ∀ (v3 : Int32) (v2 : Int32) (M : Mm), Sim cQi l layM G 7 cX10_clearBy RX10 6 (some .int) 15 [(3, .int v3), (2, .int v2), (0, rf G 0), (1, .int v1)] [] M (q15 v3 v2 M)) : ∀ (n : Nat) (v4 : Int32) (v2 : Int32) (M : Mm), Sim cQi l layM G 7 cX10_clearBy RX10 6 (some .int) 26 [(4, .int v4), (3, .int v3), (2, .int v2), (0, rf G 0), (1, .int v1)] [] M (fX10_clearBy_L26 q15 v3 v1 n v4 v2 M)
  | 0, _, _, _ => s_none
  | n + 1, v4, v2, M => tX10_clearBy_L26b l G v3 v1 q15 hq15 _ (tX10_clearBy_L26 l G v3 v1 q15 hq15 n) v4 v2 M
def fX10_clearBy_L15b (v1 : Int32) (q15 : Int32 → Int32 → Mm → Option (Int32 × Mm)) (v3 : Int32) (v2 : Int32) (M : Mm) : Option (Int32 × Mm) :=
  if (M 0 15) ≤ v3 then (fX10_clearBy_B90 v2 M)
  else fX10_clearBy_L26 q15 v3 v1 FU (0 : Int32) v2 M
def fX10_clearBy_L15 (v1 : Int32) : Nat → Int32 → Int32 → Mm → Option (Int32 × Mm)
  | 0 => fun _ _ _ => none
  | n + 1 => fX10_clearBy_L15b v1 (fX10_clearBy_L15 v1 n)
theorem tX10_clearBy_L15b (l : Launch) (G : Gx) (v1 : Int32) (q15 : Int32 → Int32 → Mm → Option (Int32 × Mm)) (hq15 : ∀ (v3 : Int32) (v2 : Int32) (M : Mm), Sim cQi l layM G 7 cX10_clearBy RX10 6 (some .int) 15 [(3, .int v3), (2, .int v2), (0, rf G 0), (1, .int v1)] [] M (q15 v3 v2 M)) (v3 : Int32) (v2 : Int32) (M : Mm) : Sim cQi l layM G 7 cX10_clearBy RX10 6 (some .int) 15 [(3, .int v3), (2, .int v2), (0, rf G 0), (1, .int v1)] [] M (fX10_clearBy_L15b v1 q15 v3 v2 M) := by
  unfold fX10_clearBy_L15b
  refine s_iload_n 0 dX10_clearBy_15 rfl rfl ?_
  refine s_aload_n 2 dX10_clearBy_16 rfl rfl ?_
  refine g_X10_204 rfl dX10_clearBy_17 ?_
  refine s_icmpge (tgt := 90) dX10_clearBy_20 (by decide) ?_ ?_
  · exact s_sub [1, 2] rfl (tX10_clearBy_B90 l G v2 M)
  · refine s_iconst (v := 0) dX10_clearBy_23 ci_0 ?_
    refine s_istore (lv' := [(4, .int (0 : Int32)), (3, .int v3), (2, .int v2), (0, rf G 0), (1, .int v1)]) dX10_clearBy_24 rfl rfl ?_
    exact s_sub [0, 1, 2, 3, 4] rfl (tX10_clearBy_L26 l G v3 v1 q15 hq15 FU (0 : Int32) v2 M)
theorem tX10_clearBy_L15 (l : Launch) (G : Gx) (v1 : Int32) : ∀ (n : Nat) (v3 : Int32) (v2 : Int32) (M : Mm), Sim cQi l layM G 7 cX10_clearBy RX10 6 (some .int) 15 [(3, .int v3), (2, .int v2), (0, rf G 0), (1, .int v1)] [] M (fX10_clearBy_L15 v1 n v3 v2 M)
  | 0, _, _, _ => s_none
  | n + 1, v3, v2, M => tX10_clearBy_L15b l G v1 _ (tX10_clearBy_L15 l G v1 n) v3 v2 M
def fX10_clearBy (a1 : Int32) (M : Mm) : Option (Int32 × Mm) :=
  bd (fX10_carry_1_3 M) fun r1 M2 =>
  fX10_clearBy_L15 a1 FU (0 : Int32) (0 : Int32) M2
theorem mX10_clearBy (l : Launch) (G : Gx) (a1 : Int32) (M : Mm) : Mt cQi l layM G 7 yX10_clearBy cX10_clearBy 6 (some .int) [rf G 0, .int a1] M (fX10_clearBy a1 M) := by
  refine Mt.of2 (own := RX10) (lv := [(0, rf G 0), (1, .int a1)]) rfl (by decide +kernel) rfl rfl ?_
  unfold fX10_clearBy
  refine s_aload_n 0 dX10_clearBy_0 rfl rfl ?_
  refine g_X10_7 (q := 1) rfl rfl dX10_clearBy_1 ?_
  refine s_aload_n 0 dX10_clearBy_4 rfl rfl ?_
  refine g_X10_16 (q := 3) rfl rfl dX10_clearBy_5 ?_
  refine s_call_v (s_runS (rest := []) (mX10_carry_1_3 l G M) ok_X10_carry k_X10_194 rfl rfl rfl rfl dX10_clearBy_8) fun r1 M2 => ?_
  refine s_iconst (v := 0) dX10_clearBy_11 ci_0 ?_
  refine s_istore_n (lv' := [(2, .int (0 : Int32)), (0, rf G 0), (1, .int a1)]) dX10_clearBy_12 rfl rfl rfl ?_
  refine s_iconst (v := 0) dX10_clearBy_13 ci_0 ?_
  refine s_istore_n (lv' := [(3, .int (0 : Int32)), (2, .int (0 : Int32)), (0, rf G 0), (1, .int a1)]) dX10_clearBy_14 rfl rfl rfl ?_
  exact s_sub [0, 1, 2, 3] rfl (tX10_clearBy_L15 l G a1 FU (0 : Int32) (0 : Int32) M2)
theorem dX10_tries_0 : decode cX10_tries 0 = .ok (.iload_n 1, 1) := by decide +kernel
theorem dX10_tries_1 : decode cX10_tries 1 = .ok (.aload_n 0, 1) := by decide +kernel
theorem dX10_tries_2 : decode cX10_tries 2 = .ok (.getfield 204, 3) := by decide +kernel
theorem dX10_tries_5 : decode cX10_tries 5 = .ok (.if_icmp .ne 70, 3) := by decide +kernel
theorem dX10_tries_8 : decode cX10_tries 8 = .ok (.aload_n 0, 1) := by decide +kernel
theorem dX10_tries_9 : decode cX10_tries 9 = .ok (.iload_n 2, 1) := by decide +kernel
theorem dX10_tries_10 : decode cX10_tries 10 = .ok (.invokevirtual 207, 3) := by decide +kernel
theorem dX10_tries_13 : decode cX10_tries 13 = .ok (.istore_n 3, 1) := by decide +kernel
theorem dX10_tries_14 : decode cX10_tries 14 = .ok (.iconst 0, 1) := by decide +kernel
theorem dX10_tries_15 : decode cX10_tries 15 = .ok (.istore 4, 2) := by decide +kernel
theorem dX10_tries_17 : decode cX10_tries 17 = .ok (.iload 4, 2) := by decide +kernel
theorem dX10_tries_19 : decode cX10_tries 19 = .ok (.aload_n 0, 1) := by decide +kernel
theorem dX10_tries_20 : decode cX10_tries 20 = .ok (.getfield 204, 3) := by decide +kernel
theorem dX10_tries_23 : decode cX10_tries 23 = .ok (.if_icmp .ge 31, 3) := by decide +kernel
theorem dX10_tries_26 : decode cX10_tries 26 = .ok (.iload_n 3, 1) := by decide +kernel
theorem dX10_tries_27 : decode cX10_tries 27 = .ok (.aload_n 0, 1) := by decide +kernel
theorem dX10_tries_28 : decode cX10_tries 28 = .ok (.getfield 210, 3) := by decide +kernel
theorem dX10_tries_31 : decode cX10_tries 31 = .ok (.if_icmp .le 23, 3) := by decide +kernel
theorem dX10_tries_34 : decode cX10_tries 34 = .ok (.aload_n 0, 1) := by decide +kernel
theorem dX10_tries_35 : decode cX10_tries 35 = .ok (.getfield 37, 3) := by decide +kernel
theorem dX10_tries_38 : decode cX10_tries 38 = .ok (.iload 4, 2) := by decide +kernel
theorem dX10_tries_40 : decode cX10_tries 40 = .ok (.aload_n 0, 1) := by decide +kernel
theorem dX10_tries_41 : decode cX10_tries 41 = .ok (.getfield 34, 3) := by decide +kernel
theorem dX10_tries_44 : decode cX10_tries 44 = .ok (.iload 4, 2) := by decide +kernel
theorem dX10_tries_46 : decode cX10_tries 46 = .ok (.iaload, 1) := by decide +kernel
theorem dX10_tries_47 : decode cX10_tries 47 = .ok (.iastore, 1) := by decide +kernel
theorem dX10_tries_48 : decode cX10_tries 48 = .ok (.iinc 4 1, 3) := by decide +kernel
theorem dX10_tries_51 : decode cX10_tries 51 = .ok (.goto (-34), 3) := by decide +kernel
theorem dX10_tries_54 : decode cX10_tries 54 = .ok (.aload_n 0, 1) := by decide +kernel
theorem dX10_tries_55 : decode cX10_tries 55 = .ok (.iload_n 3, 1) := by decide +kernel
theorem dX10_tries_56 : decode cX10_tries 56 = .ok (.aload_n 0, 1) := by decide +kernel
theorem dX10_tries_57 : decode cX10_tries 57 = .ok (.getfield 210, 3) := by decide +kernel
theorem dX10_tries_60 : decode cX10_tries 60 = .ok (.if_icmp .le 7, 3) := by decide +kernel
theorem dX10_tries_63 : decode cX10_tries 63 = .ok (.iload_n 3, 1) := by decide +kernel
theorem dX10_tries_64 : decode cX10_tries 64 = .ok (.goto 7, 3) := by decide +kernel
theorem dX10_tries_67 : decode cX10_tries 67 = .ok (.aload_n 0, 1) := by decide +kernel
theorem dX10_tries_68 : decode cX10_tries 68 = .ok (.getfield 210, 3) := by decide +kernel
theorem dX10_tries_71 : decode cX10_tries 71 = .ok (.putfield 210, 3) := by decide +kernel
theorem dX10_tries_74 : decode cX10_tries 74 = .ok (.return_, 1) := by decide +kernel
theorem dX10_tries_75 : decode cX10_tries 75 = .ok (.iconst 0, 1) := by decide +kernel
theorem dX10_tries_76 : decode cX10_tries 76 = .ok (.istore_n 3, 1) := by decide +kernel
theorem dX10_tries_77 : decode cX10_tries 77 = .ok (.iload_n 3, 1) := by decide +kernel
theorem dX10_tries_78 : decode cX10_tries 78 = .ok (.iconst 4, 1) := by decide +kernel
theorem dX10_tries_79 : decode cX10_tries 79 = .ok (.if_icmp .ge 83, 3) := by decide +kernel
theorem dX10_tries_82 : decode cX10_tries 82 = .ok (.aload_n 0, 1) := by decide +kernel
theorem dX10_tries_83 : decode cX10_tries 83 = .ok (.iload_n 3, 1) := by decide +kernel
theorem dX10_tries_84 : decode cX10_tries 84 = .ok (.iconst 0, 1) := by decide +kernel
theorem dX10_tries_85 : decode cX10_tries 85 = .ok (.invokevirtual 153, 3) := by decide +kernel
theorem dX10_tries_88 : decode cX10_tries 88 = .ok (.ifCond .le 7, 3) := by decide +kernel
theorem dX10_tries_91 : decode cX10_tries 91 = .ok (.iconst 1, 1) := by decide +kernel
theorem dX10_tries_92 : decode cX10_tries 92 = .ok (.goto 4, 3) := by decide +kernel
theorem dX10_tries_95 : decode cX10_tries 95 = .ok (.iconst 0, 1) := by decide +kernel
theorem dX10_tries_96 : decode cX10_tries 96 = .ok (.istore 4, 2) := by decide +kernel
theorem dX10_tries_98 : decode cX10_tries 98 = .ok (.iconst 0, 1) := by decide +kernel
theorem dX10_tries_99 : decode cX10_tries 99 = .ok (.istore 5, 2) := by decide +kernel
theorem dX10_tries_101 : decode cX10_tries 101 = .ok (.iload 5, 2) := by decide +kernel
theorem dX10_tries_103 : decode cX10_tries 103 = .ok (.iload_n 1, 1) := by decide +kernel
theorem dX10_tries_104 : decode cX10_tries 104 = .ok (.if_icmp .ge 32, 3) := by decide +kernel
theorem dX10_tries_107 : decode cX10_tries 107 = .ok (.iload 4, 2) := by decide +kernel
theorem dX10_tries_109 : decode cX10_tries 109 = .ok (.ifCond .eq 18, 3) := by decide +kernel
theorem dX10_tries_112 : decode cX10_tries 112 = .ok (.aload_n 0, 1) := by decide +kernel
theorem dX10_tries_113 : decode cX10_tries 113 = .ok (.getfield 34, 3) := by decide +kernel
theorem dX10_tries_116 : decode cX10_tries 116 = .ok (.iload 5, 2) := by decide +kernel
theorem dX10_tries_118 : decode cX10_tries 118 = .ok (.iaload, 1) := by decide +kernel
theorem dX10_tries_119 : decode cX10_tries 119 = .ok (.iload_n 3, 1) := by decide +kernel
theorem dX10_tries_120 : decode cX10_tries 120 = .ok (.if_icmp .eq 7, 3) := by decide +kernel
theorem dX10_tries_123 : decode cX10_tries 123 = .ok (.iconst 1, 1) := by decide +kernel
theorem dX10_tries_124 : decode cX10_tries 124 = .ok (.goto 4, 3) := by decide +kernel
theorem dX10_tries_127 : decode cX10_tries 127 = .ok (.iconst 0, 1) := by decide +kernel
theorem dX10_tries_128 : decode cX10_tries 128 = .ok (.istore 4, 2) := by decide +kernel
theorem dX10_tries_130 : decode cX10_tries 130 = .ok (.iinc 5 1, 3) := by decide +kernel
theorem dX10_tries_133 : decode cX10_tries 133 = .ok (.goto (-32), 3) := by decide +kernel
theorem dX10_tries_136 : decode cX10_tries 136 = .ok (.iload 4, 2) := by decide +kernel
theorem dX10_tries_138 : decode cX10_tries 138 = .ok (.ifCond .eq 18, 3) := by decide +kernel
theorem dX10_tries_141 : decode cX10_tries 141 = .ok (.aload_n 0, 1) := by decide +kernel
theorem dX10_tries_142 : decode cX10_tries 142 = .ok (.getfield 34, 3) := by decide +kernel
theorem dX10_tries_145 : decode cX10_tries 145 = .ok (.iload_n 1, 1) := by decide +kernel
theorem dX10_tries_146 : decode cX10_tries 146 = .ok (.iload_n 3, 1) := by decide +kernel
theorem dX10_tries_147 : decode cX10_tries 147 = .ok (.iastore, 1) := by decide +kernel
theorem dX10_tries_148 : decode cX10_tries 148 = .ok (.aload_n 0, 1) := by decide +kernel
theorem dX10_tries_149 : decode cX10_tries 149 = .ok (.iload_n 1, 1) := by decide +kernel
theorem dX10_tries_150 : decode cX10_tries 150 = .ok (.iconst 1, 1) := by decide +kernel
theorem dX10_tries_151 : decode cX10_tries 151 = .ok (.iadd, 1) := by decide +kernel
theorem dX10_tries_152 : decode cX10_tries 152 = .ok (.iload_n 2, 1) := by decide +kernel
theorem dX10_tries_153 : decode cX10_tries 153 = .ok (.invokevirtual 213, 3) := by decide +kernel
theorem dX10_tries_156 : decode cX10_tries 156 = .ok (.iinc 3 1, 3) := by decide +kernel
theorem dX10_tries_159 : decode cX10_tries 159 = .ok (.goto (-82), 3) := by decide +kernel
theorem dX10_tries_162 : decode cX10_tries 162 = .ok (.return_, 1) := by decide +kernel
def fX10_tries_B162 (zX10_tries : Int32 → Int32 → Mm → Option (Unit × Mm)) (M : Mm) : Option (Unit × Mm) :=
  some ((), M)
theorem tX10_tries_B162 (l : Launch) (G : Gx) (zX10_tries : Int32 → Int32 → Mm → Option (Unit × Mm)) (lev lev1 : Nat) (hlev : Nat.ble (lev1 + 1) lev = true) (hbase : 8 ≤ lev) (hzX10_tries : ∀ (a1 : Int32) (a2 : Int32) (M : Mm), Mt cQv l layM G lev1 yX10_tries cX10_tries 6 none [rf G 0, .int a1, .int a2] M (zX10_tries a1 a2 M)) (M : Mm) : Sim cQv l layM G lev cX10_tries RX10 6 none 162 [] [] M (fX10_tries_B162 zX10_tries M) := by
  unfold fX10_tries_B162
  exact s_vret rfl dX10_tries_162
def fX10_tries_B156 (zX10_tries : Int32 → Int32 → Mm → Option (Unit × Mm)) (q77 : Int32 → Mm → Option (Unit × Mm)) (v3 : Int32) (v1 : Int32) (v2 : Int32) (M : Mm) : Option (Unit × Mm) :=
  q77 (v3 + 1) M
theorem tX10_tries_B156 (l : Launch) (G : Gx) (zX10_tries : Int32 → Int32 → Mm → Option (Unit × Mm)) (lev lev1 : Nat) (hlev : Nat.ble (lev1 + 1) lev = true) (hbase : 8 ≤ lev) (hzX10_tries : ∀ (a1 : Int32) (a2 : Int32) (M : Mm), Mt cQv l layM G lev1 yX10_tries cX10_tries 6 none [rf G 0, .int a1, .int a2] M (zX10_tries a1 a2 M)) (v3 : Int32) (v1 : Int32) (v2 : Int32) (q77 : Int32 → Mm → Option (Unit × Mm)) (hq77 : ∀ (v3 : Int32) (M : Mm), Sim cQv l layM G lev cX10_tries RX10 6 none 77 [(3, .int v3), (0, rf G 0), (1, .int v1), (2, .int v2)] [] M (q77 v3 M)) (M : Mm) : Sim cQv l layM G lev cX10_tries RX10 6 none 156 [(3, .int v3), (0, rf G 0), (1, .int v1), (2, .int v2)] [] M (fX10_tries_B156 zX10_tries q77 v3 v1 v2 M) := by
  unfold fX10_tries_B156
  refine s_iinc (k := 0) (lv' := [(3, .int (v3 + 1)), (0, rf G 0), (1, .int v1), (2, .int v2)]) dX10_tries_156 rfl ci_1 rfl rfl ?_
  refine s_goto (tgt := 77) dX10_tries_159 (by decide) ?_
  exact s_sub [0, 1, 2, 3] rfl (hq77 (v3 + 1) M)
def fX10_tries_B136 (zX10_tries : Int32 → Int32 → Mm → Option (Unit × Mm)) (q77 : Int32 → Mm → Option (Unit × Mm)) (v4 : Int32) (v3 : Int32) (v1 : Int32) (v2 : Int32) (M : Mm) : Option (Unit × Mm) :=
  if v4 = 0 then (fX10_tries_B156 zX10_tries q77 v3 v1 v2 M)
  else gd (inb v1 4) <|
  lt (wr M 9 (ix v1) v3) fun M4 =>
  bd (zX10_tries (v1 + (1 : Int32)) v2 M4) fun r5 M6 =>
  fX10_tries_B156 zX10_tries q77 v3 v1 v2 M6
theorem tX10_tries_B136 (l : Launch) (G : Gx) (zX10_tries : Int32 → Int32 → Mm → Option (Unit × Mm)) (lev lev1 : Nat) (hlev : Nat.ble (lev1 + 1) lev = true) (hbase : 8 ≤ lev) (hzX10_tries : ∀ (a1 : Int32) (a2 : Int32) (M : Mm), Mt cQv l layM G lev1 yX10_tries cX10_tries 6 none [rf G 0, .int a1, .int a2] M (zX10_tries a1 a2 M)) (v4 : Int32) (v3 : Int32) (v1 : Int32) (v2 : Int32) (q77 : Int32 → Mm → Option (Unit × Mm)) (hq77 : ∀ (v3 : Int32) (M : Mm), Sim cQv l layM G lev cX10_tries RX10 6 none 77 [(3, .int v3), (0, rf G 0), (1, .int v1), (2, .int v2)] [] M (q77 v3 M)) (M : Mm) : Sim cQv l layM G lev cX10_tries RX10 6 none 136 [(4, .int v4), (3, .int v3), (0, rf G 0), (1, .int v1), (2, .int v2)] [] M (fX10_tries_B136 zX10_tries q77 v4 v3 v1 v2 M) := by
  unfold fX10_tries_B136
  refine s_iload 0 dX10_tries_136 rfl ?_
  refine s_ifeq (tgt := 156) dX10_tries_138 (by decide) ?_ ?_
  · exact s_sub [1, 2, 3, 4] rfl (tX10_tries_B156 l G zX10_tries lev lev1 hlev hbase hzX10_tries v3 v1 v2 q77 hq77 M)
  · refine s_aload_n 2 dX10_tries_141 rfl rfl ?_
    refine g_X10_34 (q := 9) rfl rfl dX10_tries_142 ?_
    refine s_iload_n 3 dX10_tries_145 rfl rfl ?_
    refine s_iload_n 1 dX10_tries_146 rfl rfl ?_
    refine s_gd fun h3 => ?_
    refine s_iast (n := 4) rfl h3 dX10_tries_147 ?_
    refine s_letM fun M4 => ?_
    refine s_aload_n 2 dX10_tries_148 rfl rfl ?_
    refine s_iload_n 3 dX10_tries_149 rfl rfl ?_
    refine s_iconst (v := 1) dX10_tries_150 ci_1 ?_
    refine s_iadd dX10_tries_151 ?_
    refine s_iload_n 4 dX10_tries_152 rfl rfl ?_
    refine s_call_v (s_runV (ci := 10) (rest := []) rfl rfl (hzX10_tries (v1 + (1 : Int32)) v2 M4) ok_X10_tries k_X10_213 hlev rfl rfl rfl dX10_tries_153) fun r5 M6 => ?_
    exact s_sub [1, 2, 3, 4] rfl (tX10_tries_B156 l G zX10_tries lev lev1 hlev hbase hzX10_tries v3 v1 v2 q77 hq77 M6)
def fX10_tries_B128 (zX10_tries : Int32 → Int32 → Mm → Option (Unit × Mm)) (q77 : Int32 → Mm → Option (Unit × Mm)) (q101 : Int32 → Int32 → Mm → Option (Unit × Mm)) (v5 : Int32) (v3 : Int32) (v1 : Int32) (v2 : Int32) (w0 : Int32) (M : Mm) : Option (Unit × Mm) :=
  q101 (v5 + 1) w0 M
theorem tX10_tries_B128 (l : Launch) (G : Gx) (zX10_tries : Int32 → Int32 → Mm → Option (Unit × Mm)) (lev lev1 : Nat) (hlev : Nat.ble (lev1 + 1) lev = true) (hbase : 8 ≤ lev) (hzX10_tries : ∀ (a1 : Int32) (a2 : Int32) (M : Mm), Mt cQv l layM G lev1 yX10_tries cX10_tries 6 none [rf G 0, .int a1, .int a2] M (zX10_tries a1 a2 M)) (v5 : Int32) (v3 : Int32) (v1 : Int32) (v2 : Int32) (w0 : Int32) (q77 : Int32 → Mm → Option (Unit × Mm))  (q101 : Int32 → Int32 → Mm → Option (Unit × Mm)) (hq77 : ∀ (v3 : Int32) (M : Mm), Sim cQv l layM G lev cX10_tries RX10 6 none 77 [(3, .int v3), (0, rf G 0), (1, .int v1), (2, .int v2)] [] M (q77 v3 M)) (hq101 : ∀ (v5 : Int32) (v4 : Int32) (M : Mm), Sim cQv l layM G lev cX10_tries RX10 6 none 101 [(5, .int v5), (4, .int v4), (3, .int v3), (0, rf G 0), (1, .int v1), (2, .int v2)] [] M (q101 v5 v4 M)) (M : Mm) : Sim cQv l layM G lev cX10_tries RX10 6 none 128 [(5, .int v5), (3, .int v3), (0, rf G 0), (1, .int v1), (2, .int v2)] [.int w0] M (fX10_tries_B128 zX10_tries q77 q101 v5 v3 v1 v2 w0 M) := by
  unfold fX10_tries_B128
  refine s_istore (lv' := [(4, .int w0), (5, .int v5), (3, .int v3), (0, rf G 0), (1, .int v1), (2, .int v2)]) dX10_tries_128 rfl rfl ?_
  refine s_iinc (k := 1) (lv' := [(5, .int (v5 + 1)), (4, .int w0), (3, .int v3), (0, rf G 0), (1, .int v1), (2, .int v2)]) dX10_tries_130 rfl ci_1 rfl rfl ?_
  refine s_goto (tgt := 101) dX10_tries_133 (by decide) ?_
  exact s_sub [0, 1, 2, 3, 4, 5] rfl (hq101 (v5 + 1) w0 M)
def fX10_tries_B127 (zX10_tries : Int32 → Int32 → Mm → Option (Unit × Mm)) (q77 : Int32 → Mm → Option (Unit × Mm)) (q101 : Int32 → Int32 → Mm → Option (Unit × Mm)) (v5 : Int32) (v3 : Int32) (v1 : Int32) (v2 : Int32) (M : Mm) : Option (Unit × Mm) :=
  fX10_tries_B128 zX10_tries q77 q101 v5 v3 v1 v2 (0 : Int32) M
theorem tX10_tries_B127 (l : Launch) (G : Gx) (zX10_tries : Int32 → Int32 → Mm → Option (Unit × Mm)) (lev lev1 : Nat) (hlev : Nat.ble (lev1 + 1) lev = true) (hbase : 8 ≤ lev) (hzX10_tries : ∀ (a1 : Int32) (a2 : Int32) (M : Mm), Mt cQv l layM G lev1 yX10_tries cX10_tries 6 none [rf G 0, .int a1, .int a2] M (zX10_tries a1 a2 M)) (v5 : Int32) (v3 : Int32) (v1 : Int32) (v2 : Int32) (q77 : Int32 → Mm → Option (Unit × Mm))  (q101 : Int32 → Int32 → Mm → Option (Unit × Mm)) (hq77 : ∀ (v3 : Int32) (M : Mm), Sim cQv l layM G lev cX10_tries RX10 6 none 77 [(3, .int v3), (0, rf G 0), (1, .int v1), (2, .int v2)] [] M (q77 v3 M)) (hq101 : ∀ (v5 : Int32) (v4 : Int32) (M : Mm), Sim cQv l layM G lev cX10_tries RX10 6 none 101 [(5, .int v5), (4, .int v4), (3, .int v3), (0, rf G 0), (1, .int v1), (2, .int v2)] [] M (q101 v5 v4 M)) (M : Mm) : Sim cQv l layM G lev cX10_tries RX10 6 none 127 [(5, .int v5), (3, .int v3), (0, rf G 0), (1, .int v1), (2, .int v2)] [] M (fX10_tries_B127 zX10_tries q77 q101 v5 v3 v1 v2 M) := by
  unfold fX10_tries_B127
  refine s_iconst (v := 0) dX10_tries_127 ci_0 ?_
  exact s_sub [0, 1, 2, 3, 4] rfl (tX10_tries_B128 l G zX10_tries lev lev1 hlev hbase hzX10_tries v5 v3 v1 v2 (0 : Int32) q77 q101 hq77 hq101 M)
def fX10_tries_L101b (zX10_tries : Int32 → Int32 → Mm → Option (Unit × Mm)) (q77 : Int32 → Mm → Option (Unit × Mm)) (v3 : Int32) (v1 : Int32) (v2 : Int32) (q101 : Int32 → Int32 → Mm → Option (Unit × Mm)) (v5 : Int32) (v4 : Int32) (M : Mm) : Option (Unit × Mm) :=
  if v1 ≤ v5 then (fX10_tries_B136 zX10_tries q77 v4 v3 v1 v2 M)
  else if v4 = 0 then (fX10_tries_B127 zX10_tries q77 q101 v5 v3 v1 v2 M)
  else gd (inb v5 4) <|
  if (M 9 (ix v5)) = v3 then (fX10_tries_B127 zX10_tries q77 q101 v5 v3 v1 v2 M)
  else fX10_tries_B128 zX10_tries q77 q101 v5 v3 v1 v2 (1 : Int32) M
def fX10_tries_L101 (zX10_tries : Int32 → Int32 → Mm → Option (Unit × Mm)) (q77 : Int32 → Mm → Option (Unit × Mm)) (v3 : Int32) (v1 : Int32) (v2 : Int32) : Nat → Int32 → Int32 → Mm → Option (Unit × Mm)
  | 0 => fun _ _ _ => none
  | n + 1 => fX10_tries_L101b zX10_tries q77 v3 v1 v2 (fX10_tries_L101 zX10_tries q77 v3 v1 v2 n)
theorem tX10_tries_L101b (l : Launch) (G : Gx) (zX10_tries : Int32 → Int32 → Mm → Option (Unit × Mm)) (lev lev1 : Nat) (hlev : Nat.ble (lev1 + 1) lev = true) (hbase : 8 ≤ lev) (hzX10_tries : ∀ (a1 : Int32) (a2 : Int32) (M : Mm), Mt cQv l layM G lev1 yX10_tries cX10_tries 6 none [rf G 0, .int a1, .int a2] M (zX10_tries a1 a2 M)) (v3 : Int32) (v1 : Int32) (v2 : Int32) (q77 : Int32 → Mm → Option (Unit × Mm)) (hq77 : ∀ (v3 : Int32) (M : Mm), Sim cQv l layM G lev cX10_tries RX10 6 none 77 [(3, .int v3), (0, rf G 0), (1, .int v1), (2, .int v2)] [] M (q77 v3 M)) (q101 : Int32 → Int32 → Mm → Option (Unit × Mm)) (hq101 : ∀ (v5 : Int32) (v4 : Int32) (M : Mm), Sim cQv l layM G lev cX10_tries RX10 6 none 101 [(5, .int v5), (4, .int v4), (3, .int v3), (0, rf G 0), (1, .int v1), (2, .int v2)] [] M (q101 v5 v4 M)) (v5 : Int32) (v4 : Int32) (M : Mm) : Sim cQv l layM G lev cX10_tries RX10 6 none 101 [(5, .int v5), (4, .int v4), (3, .int v3), (0, rf G 0), (1, .int v1), (2, .int v2)] [] M (fX10_tries_L101b zX10_tries q77 v3 v1 v2 q101 v5 v4 M) := by
  unfold fX10_tries_L101b
  refine s_iload 0 dX10_tries_101 rfl ?_
  refine s_iload_n 4 dX10_tries_103 rfl rfl ?_
  refine s_icmpge (tgt := 136) dX10_tries_104 (by decide) ?_ ?_
  · exact s_sub [1, 2, 3, 4, 5] rfl (tX10_tries_B136 l G zX10_tries lev lev1 hlev hbase hzX10_tries v4 v3 v1 v2 q77 hq77 M)
  · refine s_iload 1 dX10_tries_107 rfl ?_
    refine s_ifeq (tgt := 127) dX10_tries_109 (by decide) ?_ ?_
    · exact s_sub [0, 2, 3, 4, 5] rfl (tX10_tries_B127 l G zX10_tries lev lev1 hlev hbase hzX10_tries v5 v3 v1 v2 q77 q101 hq77 hq101 M)
    · refine s_aload_n 3 dX10_tries_112 rfl rfl ?_
      refine g_X10_34 (q := 9) rfl rfl dX10_tries_113 ?_
      refine s_iload 0 dX10_tries_116 rfl ?_
      refine s_gd fun h7 => ?_
      refine s_iald (n := 4) rfl h7 dX10_tries_118 ?_
      refine s_iload_n 2 dX10_tries_119 rfl rfl ?_
      refine s_icmpeq (tgt := 127) dX10_tries_120 (by decide) ?_ ?_
      · exact s_sub [0, 2, 3, 4, 5] rfl (tX10_tries_B127 l G zX10_tries lev lev1 hlev hbase hzX10_tries v5 v3 v1 v2 q77 q101 hq77 hq101 M)
      · refine s_iconst (v := 1) dX10_tries_123 ci_1 ?_
        refine s_goto (tgt := 128) dX10_tries_124 (by decide) ?_
        exact s_sub [0, 2, 3, 4, 5] rfl (tX10_tries_B128 l G zX10_tries lev lev1 hlev hbase hzX10_tries v5 v3 v1 v2 (1 : Int32) q77 q101 hq77 hq101 M)
theorem tX10_tries_L101 (l : Launch) (G : Gx) (zX10_tries : Int32 → Int32 → Mm → Option (Unit × Mm)) (lev lev1 : Nat) (hlev : Nat.ble (lev1 + 1) lev = true) (hbase : 8 ≤ lev) (hzX10_tries : ∀ (a1 : Int32) (a2 : Int32) (M : Mm), Mt cQv l layM G lev1 yX10_tries cX10_tries 6 none [rf G 0, .int a1, .int a2] M (zX10_tries a1 a2 M)) (v3 : Int32) (v1 : Int32) (v2 : Int32) (q77 : Int32 → Mm → Option (Unit × Mm)) (hq77 : ∀ (v3 : Int32) (M : Mm), Sim cQv l layM G lev cX10_tries RX10 6 none 77 [(3, .int v3), (0, rf G 0), (1, .int v1), (2, .int v2)] [] M (q77 v3 M)) : ∀ (n : Nat) (v5 : Int32) (v4 : Int32) (M : Mm), Sim cQv l layM G lev cX10_tries RX10 6 none 101 [(5, .int v5), (4, .int v4), (3, .int v3), (0, rf G 0), (1, .int v1), (2, .int v2)] [] M (fX10_tries_L101 zX10_tries q77 v3 v1 v2 n v5 v4 M)
  | 0, _, _, _ => s_none
  | n + 1, v5, v4, M => tX10_tries_L101b l G zX10_tries lev lev1 hlev hbase hzX10_tries v3 v1 v2 q77 hq77 _ (tX10_tries_L101 l G zX10_tries lev lev1 hlev hbase hzX10_tries v3 v1 v2 q77 hq77 n) v5 v4 M
def fX10_tries_B96 (zX10_tries : Int32 → Int32 → Mm → Option (Unit × Mm)) (q77 : Int32 → Mm → Option (Unit × Mm)) (v3 : Int32) (v1 : Int32) (v2 : Int32) (w0 : Int32) (M : Mm) : Option (Unit × Mm) :=
  fX10_tries_L101 zX10_tries q77 v3 v1 v2 FU (0 : Int32) w0 M
theorem tX10_tries_B96 (l : Launch) (G : Gx) (zX10_tries : Int32 → Int32 → Mm → Option (Unit × Mm)) (lev lev1 : Nat) (hlev : Nat.ble (lev1 + 1) lev = true) (hbase : 8 ≤ lev) (hzX10_tries : ∀ (a1 : Int32) (a2 : Int32) (M : Mm), Mt cQv l layM G lev1 yX10_tries cX10_tries 6 none [rf G 0, .int a1, .int a2] M (zX10_tries a1 a2 M)) (v3 : Int32) (v1 : Int32) (v2 : Int32) (w0 : Int32) (q77 : Int32 → Mm → Option (Unit × Mm)) (hq77 : ∀ (v3 : Int32) (M : Mm), Sim cQv l layM G lev cX10_tries RX10 6 none 77 [(3, .int v3), (0, rf G 0), (1, .int v1), (2, .int v2)] [] M (q77 v3 M)) (M : Mm) : Sim cQv l layM G lev cX10_tries RX10 6 none 96 [(3, .int v3), (0, rf G 0), (1, .int v1), (2, .int v2)] [.int w0] M (fX10_tries_B96 zX10_tries q77 v3 v1 v2 w0 M) := by
  unfold fX10_tries_B96
  refine s_istore (lv' := [(4, .int w0), (3, .int v3), (0, rf G 0), (1, .int v1), (2, .int v2)]) dX10_tries_96 rfl rfl ?_
  refine s_iconst (v := 0) dX10_tries_98 ci_0 ?_
  refine s_istore (lv' := [(5, .int (0 : Int32)), (4, .int w0), (3, .int v3), (0, rf G 0), (1, .int v1), (2, .int v2)]) dX10_tries_99 rfl rfl ?_
  exact s_sub [0, 1, 2, 3, 4, 5] rfl (tX10_tries_L101 l G zX10_tries lev lev1 hlev hbase hzX10_tries v3 v1 v2 q77 hq77 FU (0 : Int32) w0 M)
def fX10_tries_L77b (zX10_tries : Int32 → Int32 → Mm → Option (Unit × Mm)) (v1 : Int32) (v2 : Int32) (q77 : Int32 → Mm → Option (Unit × Mm)) (v3 : Int32) (M : Mm) : Option (Unit × Mm) :=
  if (4 : Int32) ≤ v3 then (fX10_tries_B162 zX10_tries M)
  else bd (fX10_of v3 (0 : Int32) M) fun r1 M2 =>
  if r1 ≤ 0 then (fX10_tries_B96 zX10_tries q77 v3 v1 v2 (0 : Int32) M2)
  else fX10_tries_B96 zX10_tries q77 v3 v1 v2 (1 : Int32) M2
def fX10_tries_L77 (zX10_tries : Int32 → Int32 → Mm → Option (Unit × Mm)) (v1 : Int32) (v2 : Int32) : Nat → Int32 → Mm → Option (Unit × Mm)
  | 0 => fun _ _ => none
  | n + 1 => fX10_tries_L77b zX10_tries v1 v2 (fX10_tries_L77 zX10_tries v1 v2 n)
theorem tX10_tries_L77b (l : Launch) (G : Gx) (zX10_tries : Int32 → Int32 → Mm → Option (Unit × Mm)) (lev lev1 : Nat) (hlev : Nat.ble (lev1 + 1) lev = true) (hbase : 8 ≤ lev) (hzX10_tries : ∀ (a1 : Int32) (a2 : Int32) (M : Mm), Mt cQv l layM G lev1 yX10_tries cX10_tries 6 none [rf G 0, .int a1, .int a2] M (zX10_tries a1 a2 M)) (v1 : Int32) (v2 : Int32) (q77 : Int32 → Mm → Option (Unit × Mm)) (hq77 : ∀ (v3 : Int32) (M : Mm), Sim cQv l layM G lev cX10_tries RX10 6 none 77 [(3, .int v3), (0, rf G 0), (1, .int v1), (2, .int v2)] [] M (q77 v3 M)) (v3 : Int32) (M : Mm) : Sim cQv l layM G lev cX10_tries RX10 6 none 77 [(3, .int v3), (0, rf G 0), (1, .int v1), (2, .int v2)] [] M (fX10_tries_L77b zX10_tries v1 v2 q77 v3 M) := by
  unfold fX10_tries_L77b
  refine s_iload_n 0 dX10_tries_77 rfl rfl ?_
  refine s_iconst (v := 4) dX10_tries_78 ci_4 ?_
  refine s_icmpge (tgt := 162) dX10_tries_79 (by decide) ?_ ?_
  · exact s_sub [] rfl (tX10_tries_B162 l G zX10_tries lev lev1 hlev hbase hzX10_tries M)
  · refine s_aload_n 1 dX10_tries_82 rfl rfl ?_
    refine s_iload_n 0 dX10_tries_83 rfl rfl ?_
    refine s_iconst (v := 0) dX10_tries_84 ci_0 ?_
    refine s_call_i (s_runV (ci := 10) (rest := []) rfl rfl (mX10_of l G v3 (0 : Int32) M) ok_X10_of k_X10_153 (ble_of hbase rfl) rfl rfl rfl dX10_tries_85) fun r1 M2 => ?_
    refine s_ifle (tgt := 95) dX10_tries_88 (by decide) ?_ ?_
    · refine s_iconst (v := 0) dX10_tries_95 ci_0 ?_
      exact s_sub [0, 1, 2, 3] rfl (tX10_tries_B96 l G zX10_tries lev lev1 hlev hbase hzX10_tries v3 v1 v2 (0 : Int32) q77 hq77 M2)
    · refine s_iconst (v := 1) dX10_tries_91 ci_1 ?_
      refine s_goto (tgt := 96) dX10_tries_92 (by decide) ?_
      exact s_sub [0, 1, 2, 3] rfl (tX10_tries_B96 l G zX10_tries lev lev1 hlev hbase hzX10_tries v3 v1 v2 (1 : Int32) q77 hq77 M2)
theorem tX10_tries_L77 (l : Launch) (G : Gx) (zX10_tries : Int32 → Int32 → Mm → Option (Unit × Mm)) (lev lev1 : Nat) (hlev : Nat.ble (lev1 + 1) lev = true) (hbase : 8 ≤ lev) (hzX10_tries : ∀ (a1 : Int32) (a2 : Int32) (M : Mm), Mt cQv l layM G lev1 yX10_tries cX10_tries 6 none [rf G 0, .int a1, .int a2] M (zX10_tries a1 a2 M)) (v1 : Int32) (v2 : Int32) : ∀ (n : Nat) (v3 : Int32) (M : Mm), Sim cQv l layM G lev cX10_tries RX10 6 none 77 [(3, .int v3), (0, rf G 0), (1, .int v1), (2, .int v2)] [] M (fX10_tries_L77 zX10_tries v1 v2 n v3 M)
  | 0, _, _ => s_none
  | n + 1, v3, M => tX10_tries_L77b l G zX10_tries lev lev1 hlev hbase hzX10_tries v1 v2 _ (tX10_tries_L77 l G zX10_tries lev lev1 hlev hbase hzX10_tries v1 v2 n) v3 M
def fX10_tries_B71 (zX10_tries : Int32 → Int32 → Mm → Option (Unit × Mm)) (w0 : Int32) (M : Mm) : Option (Unit × Mm) :=
  lt (wr M 0 16 w0) fun M10 =>
  some ((), M10)
theorem tX10_tries_B71 (l : Launch) (G : Gx) (zX10_tries : Int32 → Int32 → Mm → Option (Unit × Mm)) (lev lev1 : Nat) (hlev : Nat.ble (lev1 + 1) lev = true) (hbase : 8 ≤ lev) (hzX10_tries : ∀ (a1 : Int32) (a2 : Int32) (M : Mm), Mt cQv l layM G lev1 yX10_tries cX10_tries 6 none [rf G 0, .int a1, .int a2] M (zX10_tries a1 a2 M)) (w0 : Int32) (M : Mm) : Sim cQv l layM G lev cX10_tries RX10 6 none 71 [] [.int w0, rf G 0] M (fX10_tries_B71 zX10_tries w0 M) := by
  unfold fX10_tries_B71
  refine p_X10_210 rfl dX10_tries_71 ?_
  refine s_letM fun M10 => ?_
  exact s_vret rfl dX10_tries_74
def fX10_tries_B54 (zX10_tries : Int32 → Int32 → Mm → Option (Unit × Mm)) (v3 : Int32) (M : Mm) : Option (Unit × Mm) :=
  if v3 ≤ (M 0 16) then (fX10_tries_B71 zX10_tries (M 0 16) M)
  else fX10_tries_B71 zX10_tries v3 M
theorem tX10_tries_B54 (l : Launch) (G : Gx) (zX10_tries : Int32 → Int32 → Mm → Option (Unit × Mm)) (lev lev1 : Nat) (hlev : Nat.ble (lev1 + 1) lev = true) (hbase : 8 ≤ lev) (hzX10_tries : ∀ (a1 : Int32) (a2 : Int32) (M : Mm), Mt cQv l layM G lev1 yX10_tries cX10_tries 6 none [rf G 0, .int a1, .int a2] M (zX10_tries a1 a2 M)) (v3 : Int32) (M : Mm) : Sim cQv l layM G lev cX10_tries RX10 6 none 54 [(3, .int v3), (0, rf G 0)] [] M (fX10_tries_B54 zX10_tries v3 M) := by
  unfold fX10_tries_B54
  refine s_aload_n 1 dX10_tries_54 rfl rfl ?_
  refine s_iload_n 0 dX10_tries_55 rfl rfl ?_
  refine s_aload_n 1 dX10_tries_56 rfl rfl ?_
  refine g_X10_210 rfl dX10_tries_57 ?_
  refine s_icmple (tgt := 67) dX10_tries_60 (by decide) ?_ ?_
  · refine s_aload_n 1 dX10_tries_67 rfl rfl ?_
    refine g_X10_210 rfl dX10_tries_68 ?_
    exact s_sub [] rfl (tX10_tries_B71 l G zX10_tries lev lev1 hlev hbase hzX10_tries (M 0 16) M)
  · refine s_iload_n 0 dX10_tries_63 rfl rfl ?_
    refine s_goto (tgt := 71) dX10_tries_64 (by decide) ?_
    exact s_sub [] rfl (tX10_tries_B71 l G zX10_tries lev lev1 hlev hbase hzX10_tries v3 M)
def fX10_tries_L17b (zX10_tries : Int32 → Int32 → Mm → Option (Unit × Mm)) (v3 : Int32) (q17 : Int32 → Mm → Option (Unit × Mm)) (v4 : Int32) (M : Mm) : Option (Unit × Mm) :=
  if (M 0 15) ≤ v4 then (fX10_tries_B54 zX10_tries v3 M)
  else if v3 ≤ (M 0 16) then (fX10_tries_B54 zX10_tries v3 M)
  else gd (inb v4 4) <|
  lt (wr M 10 (ix v4) (M 9 (ix v4))) fun M12 =>
  q17 (v4 + 1) M12
def fX10_tries_L17 (zX10_tries : Int32 → Int32 → Mm → Option (Unit × Mm)) (v3 : Int32) : Nat → Int32 → Mm → Option (Unit × Mm)
  | 0 => fun _ _ => none
  | n + 1 => fX10_tries_L17b zX10_tries v3 (fX10_tries_L17 zX10_tries v3 n)
theorem tX10_tries_L17b (l : Launch) (G : Gx) (zX10_tries : Int32 → Int32 → Mm → Option (Unit × Mm)) (lev lev1 : Nat) (hlev : Nat.ble (lev1 + 1) lev = true) (hbase : 8 ≤ lev) (hzX10_tries : ∀ (a1 : Int32) (a2 : Int32) (M : Mm), Mt cQv l layM G lev1 yX10_tries cX10_tries 6 none [rf G 0, .int a1, .int a2] M (zX10_tries a1 a2 M)) (v3 : Int32) (q17 : Int32 → Mm → Option (Unit × Mm)) (hq17 : ∀ (v4 : Int32) (M : Mm), Sim cQv l layM G lev cX10_tries RX10 6 none 17 [(4, .int v4), (3, .int v3), (0, rf G 0)] [] M (q17 v4 M)) (v4 : Int32) (M : Mm) : Sim cQv l layM G lev cX10_tries RX10 6 none 17 [(4, .int v4), (3, .int v3), (0, rf G 0)] [] M (fX10_tries_L17b zX10_tries v3 q17 v4 M) := by
  unfold fX10_tries_L17b
  refine s_iload 0 dX10_tries_17 rfl ?_
  refine s_aload_n 2 dX10_tries_19 rfl rfl ?_
  refine g_X10_204 rfl dX10_tries_20 ?_
  refine s_icmpge (tgt := 54) dX10_tries_23 (by decide) ?_ ?_
  · exact s_sub [1, 2] rfl (tX10_tries_B54 l G zX10_tries lev lev1 hlev hbase hzX10_tries v3 M)
  · refine s_iload_n 1 dX10_tries_26 rfl rfl ?_
    refine s_aload_n 2 dX10_tries_27 rfl rfl ?_
    refine g_X10_210 rfl dX10_tries_28 ?_
    refine s_icmple (tgt := 54) dX10_tries_31 (by decide) ?_ ?_
    · exact s_sub [1, 2] rfl (tX10_tries_B54 l G zX10_tries lev lev1 hlev hbase hzX10_tries v3 M)
    · refine s_aload_n 2 dX10_tries_34 rfl rfl ?_
      refine g_X10_37 (q := 10) rfl rfl dX10_tries_35 ?_
      refine s_iload 0 dX10_tries_38 rfl ?_
      refine s_aload_n 2 dX10_tries_40 rfl rfl ?_
      refine g_X10_34 (q := 9) rfl rfl dX10_tries_41 ?_
      refine s_iload 0 dX10_tries_44 rfl ?_
      refine s_gd fun h11 => ?_
      refine s_iald (n := 4) rfl h11 dX10_tries_46 ?_
      refine s_iast (n := 4) rfl h11 dX10_tries_47 ?_
      refine s_letM fun M12 => ?_
      refine s_iinc (k := 0) (lv' := [(4, .int (v4 + 1)), (3, .int v3), (0, rf G 0)]) dX10_tries_48 rfl ci_1 rfl rfl ?_
      refine s_goto (tgt := 17) dX10_tries_51 (by decide) ?_
      exact s_sub [0, 1, 2] rfl (hq17 (v4 + 1) M12)
theorem tX10_tries_L17 (l : Launch) (G : Gx) (zX10_tries : Int32 → Int32 → Mm → Option (Unit × Mm)) (lev lev1 : Nat) (hlev : Nat.ble (lev1 + 1) lev = true) (hbase : 8 ≤ lev) (hzX10_tries : ∀ (a1 : Int32) (a2 : Int32) (M : Mm), Mt cQv l layM G lev1 yX10_tries cX10_tries 6 none [rf G 0, .int a1, .int a2] M (zX10_tries a1 a2 M)) (v3 : Int32) : ∀ (n : Nat) (v4 : Int32) (M : Mm), Sim cQv l layM G lev cX10_tries RX10 6 none 17 [(4, .int v4), (3, .int v3), (0, rf G 0)] [] M (fX10_tries_L17 zX10_tries v3 n v4 M)
  | 0, _, _ => s_none
  | n + 1, v4, M => tX10_tries_L17b l G zX10_tries lev lev1 hlev hbase hzX10_tries v3 _ (tX10_tries_L17 l G zX10_tries lev lev1 hlev hbase hzX10_tries v3 n) v4 M
def fX10_tries_b (zX10_tries : Int32 → Int32 → Mm → Option (Unit × Mm)) (a1 : Int32) (a2 : Int32) (M : Mm) : Option (Unit × Mm) :=
  if a1 = (M 0 15) then (bd (fX10_clearBy a2 M) fun r8 M9 =>
  fX10_tries_L17 zX10_tries r8 FU (0 : Int32) M9)
  else fX10_tries_L77 zX10_tries a1 a2 FU (0 : Int32) M
theorem mX10_tries_b (l : Launch) (G : Gx) (zX10_tries : Int32 → Int32 → Mm → Option (Unit × Mm)) (lev lev1 : Nat) (hlev : Nat.ble (lev1 + 1) lev = true) (hbase : 8 ≤ lev) (hzX10_tries : ∀ (a1 : Int32) (a2 : Int32) (M : Mm), Mt cQv l layM G lev1 yX10_tries cX10_tries 6 none [rf G 0, .int a1, .int a2] M (zX10_tries a1 a2 M)) (a1 : Int32) (a2 : Int32) (M : Mm) : Mt cQv l layM G lev yX10_tries cX10_tries 6 none [rf G 0, .int a1, .int a2] M (fX10_tries_b zX10_tries a1 a2 M) := by
  refine Mt.of2 (own := RX10) (lv := [(0, rf G 0), (1, .int a1), (2, .int a2)]) rfl (by decide +kernel) rfl rfl ?_
  unfold fX10_tries_b
  refine s_iload_n 1 dX10_tries_0 rfl rfl ?_
  refine s_aload_n 0 dX10_tries_1 rfl rfl ?_
  refine g_X10_204 rfl dX10_tries_2 ?_
  refine s_icmpne (tgt := 75) dX10_tries_5 (by decide) ?_ ?_
  · refine s_iconst (v := 0) dX10_tries_75 ci_0 ?_
    refine s_istore_n (lv' := [(3, .int (0 : Int32)), (0, rf G 0), (1, .int a1), (2, .int a2)]) dX10_tries_76 rfl rfl rfl ?_
    exact s_sub [0, 1, 2, 3] rfl (tX10_tries_L77 l G zX10_tries lev lev1 hlev hbase hzX10_tries a1 a2 FU (0 : Int32) M)
  · refine s_aload_n 0 dX10_tries_8 rfl rfl ?_
    refine s_iload_n 2 dX10_tries_9 rfl rfl ?_
    refine s_call_i (s_runV (ci := 10) (rest := []) rfl rfl (mX10_clearBy l G a2 M) ok_X10_clearBy k_X10_207 (ble_of hbase rfl) rfl rfl rfl dX10_tries_10) fun r8 M9 => ?_
    refine s_istore_n (lv' := [(3, .int r8), (0, rf G 0), (1, .int a1), (2, .int a2)]) dX10_tries_13 rfl rfl rfl ?_
    refine s_iconst (v := 0) dX10_tries_14 ci_0 ?_
    refine s_istore (lv' := [(4, .int (0 : Int32)), (3, .int r8), (0, rf G 0), (1, .int a1), (2, .int a2)]) dX10_tries_15 rfl rfl ?_
    exact s_sub [0, 1, 2] rfl (tX10_tries_L17 l G zX10_tries lev lev1 hlev hbase hzX10_tries r8 FU (0 : Int32) M9)
def grX10_tries : Nat → (Int32 → Int32 → Mm → Option (Unit × Mm))
  | 0 => (fun _ _ _ => none)
  | d + 1 => (fX10_tries_b ((grX10_tries d)))
def fX10_tries (d : Nat) : Int32 → Int32 → Mm → Option (Unit × Mm) := (grX10_tries d)
theorem mgX10_tries (l : Launch) (G : Gx) : ∀ d : Nat, (∀ (a1 : Int32) (a2 : Int32) (M : Mm), Mt cQv l layM G (8 + d) yX10_tries cX10_tries 6 none [rf G 0, .int a1, .int a2] M (fX10_tries d a1 a2 M))
  | 0 => fun _ _ _ => Mt.none
  | d + 1 => fun a1 a2 M => mX10_tries_b l G (fX10_tries d) (8 + (d + 1)) (8 + d) (Nat.ble_eq.mpr (Nat.le_refl _)) (Nat.le_add_right _ _) ((mgX10_tries l G d)) a1 a2 M
theorem mX10_tries (l : Launch) (G : Gx) (d : Nat) (a1 : Int32) (a2 : Int32) (M : Mm) : Mt cQv l layM G (8 + d) yX10_tries cX10_tries 6 none [rf G 0, .int a1, .int a2] M (fX10_tries d a1 a2 M) := (mgX10_tries l G d) a1 a2 M
theorem dX10_order_0 : decode cX10_order 0 = .ok (.iload_n 1, 1) := by decide +kernel
theorem dX10_order_1 : decode cX10_order 1 = .ok (.iconst 1, 1) := by decide +kernel
theorem dX10_order_2 : decode cX10_order 2 = .ok (.bipush 20, 2) := by decide +kernel
theorem dX10_order_4 : decode cX10_order 4 = .ok (.invokestatic 59, 3) := by decide +kernel
theorem dX10_order_7 : decode cX10_order 7 = .ok (.ifCond .eq 8, 3) := by decide +kernel
theorem dX10_order_10 : decode cX10_order 10 = .ok (.iload_n 2, 1) := by decide +kernel
theorem dX10_order_11 : decode cX10_order 11 = .ok (.iconst (-1), 1) := by decide +kernel
theorem dX10_order_12 : decode cX10_order 12 = .ok (.if_icmp .ge 9, 3) := by decide +kernel
theorem dX10_order_15 : decode cX10_order 15 = .ok (.aload_n 0, 1) := by decide +kernel
theorem dX10_order_16 : decode cX10_order 16 = .ok (.iconst 1, 1) := by decide +kernel
theorem dX10_order_17 : decode cX10_order 17 = .ok (.invokevirtual 75, 3) := by decide +kernel
theorem dX10_order_20 : decode cX10_order 20 = .ok (.ireturn, 1) := by decide +kernel
theorem dX10_order_21 : decode cX10_order 21 = .ok (.aload_n 0, 1) := by decide +kernel
theorem dX10_order_22 : decode cX10_order 22 = .ok (.iconst 0, 1) := by decide +kernel
theorem dX10_order_23 : decode cX10_order 23 = .ok (.putfield 204, 3) := by decide +kernel
theorem dX10_order_26 : decode cX10_order 26 = .ok (.iconst 0, 1) := by decide +kernel
theorem dX10_order_27 : decode cX10_order 27 = .ok (.istore_n 3, 1) := by decide +kernel
theorem dX10_order_28 : decode cX10_order 28 = .ok (.iload_n 3, 1) := by decide +kernel
theorem dX10_order_29 : decode cX10_order 29 = .ok (.iconst 4, 1) := by decide +kernel
theorem dX10_order_30 : decode cX10_order 30 = .ok (.if_icmp .ge 32, 3) := by decide +kernel
theorem dX10_order_33 : decode cX10_order 33 = .ok (.aload_n 0, 1) := by decide +kernel
theorem dX10_order_34 : decode cX10_order 34 = .ok (.dup, 1) := by decide +kernel
theorem dX10_order_35 : decode cX10_order 35 = .ok (.getfield 204, 3) := by decide +kernel
theorem dX10_order_38 : decode cX10_order 38 = .ok (.aload_n 0, 1) := by decide +kernel
theorem dX10_order_39 : decode cX10_order 39 = .ok (.iload_n 3, 1) := by decide +kernel
theorem dX10_order_40 : decode cX10_order 40 = .ok (.iconst 0, 1) := by decide +kernel
theorem dX10_order_41 : decode cX10_order 41 = .ok (.invokevirtual 153, 3) := by decide +kernel
theorem dX10_order_44 : decode cX10_order 44 = .ok (.ifCond .le 7, 3) := by decide +kernel
theorem dX10_order_47 : decode cX10_order 47 = .ok (.iconst 1, 1) := by decide +kernel
theorem dX10_order_48 : decode cX10_order 48 = .ok (.goto 4, 3) := by decide +kernel
theorem dX10_order_51 : decode cX10_order 51 = .ok (.iconst 0, 1) := by decide +kernel
theorem dX10_order_52 : decode cX10_order 52 = .ok (.iadd, 1) := by decide +kernel
theorem dX10_order_53 : decode cX10_order 53 = .ok (.putfield 204, 3) := by decide +kernel
theorem dX10_order_56 : decode cX10_order 56 = .ok (.iinc 3 1, 3) := by decide +kernel
theorem dX10_order_59 : decode cX10_order 59 = .ok (.goto (-31), 3) := by decide +kernel
theorem dX10_order_62 : decode cX10_order 62 = .ok (.aload_n 0, 1) := by decide +kernel
theorem dX10_order_63 : decode cX10_order 63 = .ok (.iconst (-1), 1) := by decide +kernel
theorem dX10_order_64 : decode cX10_order 64 = .ok (.putfield 210, 3) := by decide +kernel
theorem dX10_order_67 : decode cX10_order 67 = .ok (.aload_n 0, 1) := by decide +kernel
theorem dX10_order_68 : decode cX10_order 68 = .ok (.iconst 0, 1) := by decide +kernel
theorem dX10_order_69 : decode cX10_order 69 = .ok (.iload_n 1, 1) := by decide +kernel
theorem dX10_order_70 : decode cX10_order 70 = .ok (.invokevirtual 213, 3) := by decide +kernel
theorem dX10_order_73 : decode cX10_order 73 = .ok (.iload_n 2, 1) := by decide +kernel
theorem dX10_order_74 : decode cX10_order 74 = .ok (.iconst (-1), 1) := by decide +kernel
theorem dX10_order_75 : decode cX10_order 75 = .ok (.if_icmp .ne 10, 3) := by decide +kernel
theorem dX10_order_78 : decode cX10_order 78 = .ok (.aload_n 0, 1) := by decide +kernel
theorem dX10_order_79 : decode cX10_order 79 = .ok (.getfield 210, 3) := by decide +kernel
theorem dX10_order_82 : decode cX10_order 82 = .ok (.goto 25, 3) := by decide +kernel
theorem dX10_order_85 : decode cX10_order 85 = .ok (.iload_n 2, 1) := by decide +kernel
theorem dX10_order_86 : decode cX10_order 86 = .ok (.aload_n 0, 1) := by decide +kernel
theorem dX10_order_87 : decode cX10_order 87 = .ok (.getfield 204, 3) := by decide +kernel
theorem dX10_order_90 : decode cX10_order 90 = .ok (.if_icmp .ge 12, 3) := by decide +kernel
theorem dX10_order_93 : decode cX10_order 93 = .ok (.aload_n 0, 1) := by decide +kernel
theorem dX10_order_94 : decode cX10_order 94 = .ok (.getfield 37, 3) := by decide +kernel
theorem dX10_order_97 : decode cX10_order 97 = .ok (.iload_n 2, 1) := by decide +kernel
theorem dX10_order_98 : decode cX10_order 98 = .ok (.iaload, 1) := by decide +kernel
theorem dX10_order_99 : decode cX10_order 99 = .ok (.goto 8, 3) := by decide +kernel
theorem dX10_order_102 : decode cX10_order 102 = .ok (.aload_n 0, 1) := by decide +kernel
theorem dX10_order_103 : decode cX10_order 103 = .ok (.iconst 2, 1) := by decide +kernel
theorem dX10_order_104 : decode cX10_order 104 = .ok (.invokevirtual 75, 3) := by decide +kernel
theorem dX10_order_107 : decode cX10_order 107 = .ok (.ireturn, 1) := by decide +kernel
def fX10_order_B107 (w0 : Int32) (M : Mm) : Option (Int32 × Mm) :=
  some (w0, M)
theorem tX10_order_B107 (l : Launch) (G : Gx) (w0 : Int32) (M : Mm) : Sim cQi l layM G 17 cX10_order RX10 4 (some .int) 107 [] [.int w0] M (fX10_order_B107 w0 M) := by
  unfold fX10_order_B107
  exact s_iret rfl dX10_order_107
def fX10_order_B62 (v1 : Int32) (v2 : Int32) (M : Mm) : Option (Int32 × Mm) :=
  lt (wr M 0 16 (-1 : Int32)) fun M4 =>
  bd (fX10_tries DPT (0 : Int32) v1 M4) fun r5 M6 =>
  if v2 = (-1 : Int32) then (fX10_order_B107 (M6 0 16) M6)
  else if (M6 0 15) ≤ v2 then (bd (fX10_error (2 : Int32) M6) fun r7 M8 =>
  fX10_order_B107 r7 M8)
  else gd (inb v2 4) <|
  fX10_order_B107 (M6 10 (ix v2)) M6
theorem tX10_order_B62 (l : Launch) (G : Gx) (v1 : Int32) (v2 : Int32) (M : Mm) : Sim cQi l layM G 17 cX10_order RX10 4 (some .int) 62 [(0, rf G 0), (1, .int v1), (2, .int v2)] [] M (fX10_order_B62 v1 v2 M) := by
  unfold fX10_order_B62
  refine s_aload_n 0 dX10_order_62 rfl rfl ?_
  refine s_iconst (v := -1) dX10_order_63 ci_m1 ?_
  refine p_X10_210 rfl dX10_order_64 ?_
  refine s_letM fun M4 => ?_
  refine s_aload_n 0 dX10_order_67 rfl rfl ?_
  refine s_iconst (v := 0) dX10_order_68 ci_0 ?_
  refine s_iload_n 1 dX10_order_69 rfl rfl ?_
  refine s_call_v (s_runV (ci := 10) (rest := []) rfl rfl (mX10_tries l G DPT (0 : Int32) v1 M4) ok_X10_tries k_X10_213 rfl rfl rfl rfl dX10_order_70) fun r5 M6 => ?_
  refine s_iload_n 2 dX10_order_73 rfl rfl ?_
  refine s_iconst (v := -1) dX10_order_74 ci_m1 ?_
  refine s_icmpne (tgt := 85) dX10_order_75 (by decide) ?_ ?_
  · refine s_iload_n 2 dX10_order_85 rfl rfl ?_
    refine s_aload_n 0 dX10_order_86 rfl rfl ?_
    refine g_X10_204 rfl dX10_order_87 ?_
    refine s_icmpge (tgt := 102) dX10_order_90 (by decide) ?_ ?_
    · refine s_aload_n 0 dX10_order_102 rfl rfl ?_
      refine s_iconst (v := 2) dX10_order_103 ci_2 ?_
      refine s_call_i (s_runV (ci := 10) (rest := []) rfl rfl (mX10_error l G (2 : Int32) M6) ok_X10_error k_X10_75 rfl rfl rfl rfl dX10_order_104) fun r7 M8 => ?_
      exact s_sub [] rfl (tX10_order_B107 l G r7 M8)
    · refine s_aload_n 0 dX10_order_93 rfl rfl ?_
      refine g_X10_37 (q := 10) rfl rfl dX10_order_94 ?_
      refine s_iload_n 2 dX10_order_97 rfl rfl ?_
      refine s_gd fun h9 => ?_
      refine s_iald (n := 4) rfl h9 dX10_order_98 ?_
      refine s_goto (tgt := 107) dX10_order_99 (by decide) ?_
      exact s_sub [] rfl (tX10_order_B107 l G (M6 10 (ix v2)) M6)
  · refine s_aload_n 0 dX10_order_78 rfl rfl ?_
    refine g_X10_210 rfl dX10_order_79 ?_
    refine s_goto (tgt := 107) dX10_order_82 (by decide) ?_
    exact s_sub [] rfl (tX10_order_B107 l G (M6 0 16) M6)
def fX10_order_B52 (q28 : Int32 → Mm → Option (Int32 × Mm)) (v3 : Int32) (v1 : Int32) (v2 : Int32) (w0 : Int32) (w1 : Int32) (M : Mm) : Option (Int32 × Mm) :=
  lt (wr M 0 15 (w1 + w0)) fun M12 =>
  q28 (v3 + 1) M12
theorem tX10_order_B52 (l : Launch) (G : Gx) (v3 : Int32) (v1 : Int32) (v2 : Int32) (w0 : Int32) (w1 : Int32) (q28 : Int32 → Mm → Option (Int32 × Mm)) (hq28 : ∀ (v3 : Int32) (M : Mm), Sim cQi l layM G 17 cX10_order RX10 4 (some .int) 28 [(3, .int v3), (0, rf G 0), (1, .int v1), (2, .int v2)] [] M (q28 v3 M)) (M : Mm) : Sim cQi l layM G 17 cX10_order RX10 4 (some .int) 52 [(3, .int v3), (0, rf G 0), (1, .int v1), (2, .int v2)] [.int w0, .int w1, rf G 0] M (fX10_order_B52 q28 v3 v1 v2 w0 w1 M) := by
  unfold fX10_order_B52
  refine s_iadd dX10_order_52 ?_
  refine p_X10_204 rfl dX10_order_53 ?_
  refine s_letM fun M12 => ?_
  refine s_iinc (k := 0) (lv' := [(3, .int (v3 + 1)), (0, rf G 0), (1, .int v1), (2, .int v2)]) dX10_order_56 rfl ci_1 rfl rfl ?_
  refine s_goto (tgt := 28) dX10_order_59 (by decide) ?_
  exact s_sub [0, 1, 2, 3] rfl (hq28 (v3 + 1) M12)
def fX10_order_L28b (v1 : Int32) (v2 : Int32) (q28 : Int32 → Mm → Option (Int32 × Mm)) (v3 : Int32) (M : Mm) : Option (Int32 × Mm) :=
  if (4 : Int32) ≤ v3 then (fX10_order_B62 v1 v2 M)
  else bd (fX10_of v3 (0 : Int32) M) fun r10 M11 =>
  if r10 ≤ 0 then (fX10_order_B52 q28 v3 v1 v2 (0 : Int32) (M 0 15) M11)
  else fX10_order_B52 q28 v3 v1 v2 (1 : Int32) (M 0 15) M11
def fX10_order_L28 (v1 : Int32) (v2 : Int32) : Nat → Int32 → Mm → Option (Int32 × Mm)
  | 0 => fun _ _ => none
  | n + 1 => fX10_order_L28b v1 v2 (fX10_order_L28 v1 v2 n)
theorem tX10_order_L28b (l : Launch) (G : Gx) (v1 : Int32) (v2 : Int32) (q28 : Int32 → Mm → Option (Int32 × Mm)) (hq28 : ∀ (v3 : Int32) (M : Mm), Sim cQi l layM G 17 cX10_order RX10 4 (some .int) 28 [(3, .int v3), (0, rf G 0), (1, .int v1), (2, .int v2)] [] M (q28 v3 M)) (v3 : Int32) (M : Mm) : Sim cQi l layM G 17 cX10_order RX10 4 (some .int) 28 [(3, .int v3), (0, rf G 0), (1, .int v1), (2, .int v2)] [] M (fX10_order_L28b v1 v2 q28 v3 M) := by
  unfold fX10_order_L28b
  refine s_iload_n 0 dX10_order_28 rfl rfl ?_
  refine s_iconst (v := 4) dX10_order_29 ci_4 ?_
  refine s_icmpge (tgt := 62) dX10_order_30 (by decide) ?_ ?_
  · exact s_sub [1, 2, 3] rfl (tX10_order_B62 l G v1 v2 M)
  · refine s_aload_n 1 dX10_order_33 rfl rfl ?_
    refine s_dup dX10_order_34 rfl ?_
    refine g_X10_204 rfl dX10_order_35 ?_
    refine s_aload_n 1 dX10_order_38 rfl rfl ?_
    refine s_iload_n 0 dX10_order_39 rfl rfl ?_
    refine s_iconst (v := 0) dX10_order_40 ci_0 ?_
    refine s_call_i (s_runV (ci := 10) (rest := [.int (M 0 15), rf G 0]) rfl rfl (mX10_of l G v3 (0 : Int32) M) ok_X10_of k_X10_153 rfl rfl rfl rfl dX10_order_41) fun r10 M11 => ?_
    refine s_ifle (tgt := 51) dX10_order_44 (by decide) ?_ ?_
    · refine s_iconst (v := 0) dX10_order_51 ci_0 ?_
      exact s_sub [0, 1, 2, 3] rfl (tX10_order_B52 l G v3 v1 v2 (0 : Int32) (M 0 15) q28 hq28 M11)
    · refine s_iconst (v := 1) dX10_order_47 ci_1 ?_
      refine s_goto (tgt := 52) dX10_order_48 (by decide) ?_
      exact s_sub [0, 1, 2, 3] rfl (tX10_order_B52 l G v3 v1 v2 (1 : Int32) (M 0 15) q28 hq28 M11)
theorem tX10_order_L28 (l : Launch) (G : Gx) (v1 : Int32) (v2 : Int32) : ∀ (n : Nat) (v3 : Int32) (M : Mm), Sim cQi l layM G 17 cX10_order RX10 4 (some .int) 28 [(3, .int v3), (0, rf G 0), (1, .int v1), (2, .int v2)] [] M (fX10_order_L28 v1 v2 n v3 M)
  | 0, _, _ => s_none
  | n + 1, v3, M => tX10_order_L28b l G v1 v2 _ (tX10_order_L28 l G v1 v2 n) v3 M
def fX10_order_B15 (M : Mm) : Option (Int32 × Mm) :=
  bd (fX10_error (1 : Int32) M) fun r13 M14 =>
  some (r13, M14)
theorem tX10_order_B15 (l : Launch) (G : Gx) (M : Mm) : Sim cQi l layM G 17 cX10_order RX10 4 (some .int) 15 [(0, rf G 0)] [] M (fX10_order_B15 M) := by
  unfold fX10_order_B15
  refine s_aload_n 0 dX10_order_15 rfl rfl ?_
  refine s_iconst (v := 1) dX10_order_16 ci_1 ?_
  refine s_call_i (s_runV (ci := 10) (rest := []) rfl rfl (mX10_error l G (1 : Int32) M) ok_X10_error k_X10_75 rfl rfl rfl rfl dX10_order_17) fun r13 M14 => ?_
  exact s_iret rfl dX10_order_20
def fX10_order (a1 : Int32) (a2 : Int32) (M : Mm) : Option (Int32 × Mm) :=
  bd (fX10_in a1 (1 : Int32) (20 : Int32) M) fun r1 M2 =>
  if r1 = true then (if (-1 : Int32) ≤ a2 then (lt (wr M2 0 15 (0 : Int32)) fun M3 =>
  fX10_order_L28 a1 a2 FU (0 : Int32) M3)
  else fX10_order_B15 M2)
  else fX10_order_B15 M2
theorem mX10_order (l : Launch) (G : Gx) (a1 : Int32) (a2 : Int32) (M : Mm) : Mt cQi l layM G 17 yX10_order cX10_order 4 (some .int) [rf G 0, .int a1, .int a2] M (fX10_order a1 a2 M) := by
  refine Mt.of2 (own := RX10) (lv := [(0, rf G 0), (1, .int a1), (2, .int a2)]) rfl (by decide +kernel) rfl rfl ?_
  unfold fX10_order
  refine s_iload_n 1 dX10_order_0 rfl rfl ?_
  refine s_iconst (v := 1) dX10_order_1 ci_1 ?_
  refine s_bipush (v := 20) dX10_order_2 cb_20 ?_
  refine s_call_z (s_runS (rest := []) (mX10_in l G a1 (1 : Int32) (20 : Int32) M) ok_X10_in k_X10_59 rfl rfl rfl rfl dX10_order_4) fun r1 M2 => ?_
  refine s_ifeqB (tgt := 15) dX10_order_7 (by decide) ?_ ?_
  · exact s_sub [0] rfl (tX10_order_B15 l G M2)
  · refine s_iload_n 2 dX10_order_10 rfl rfl ?_
    refine s_iconst (v := -1) dX10_order_11 ci_m1 ?_
    refine s_icmpge (tgt := 21) dX10_order_12 (by decide) ?_ ?_
    · refine s_aload_n 0 dX10_order_21 rfl rfl ?_
      refine s_iconst (v := 0) dX10_order_22 ci_0 ?_
      refine p_X10_204 rfl dX10_order_23 ?_
      refine s_letM fun M3 => ?_
      refine s_iconst (v := 0) dX10_order_26 ci_0 ?_
      refine s_istore_n (lv' := [(3, .int (0 : Int32)), (0, rf G 0), (1, .int a1), (2, .int a2)]) dX10_order_27 rfl rfl rfl ?_
      exact s_sub [0, 1, 2, 3] rfl (tX10_order_L28 l G a1 a2 FU (0 : Int32) M3)
    · exact s_sub [0] rfl (tX10_order_B15 l G M2)
theorem dX10_runIn_0 : decode cX10_runIn 0 = .ok (.aload_n 0, 1) := by decide +kernel
theorem dX10_runIn_1 : decode cX10_runIn 1 = .ok (.getfield 7, 3) := by decide +kernel
theorem dX10_runIn_4 : decode cX10_runIn 4 = .ok (.aload_n 0, 1) := by decide +kernel
theorem dX10_runIn_5 : decode cX10_runIn 5 = .ok (.getfield 40, 3) := by decide +kernel
theorem dX10_runIn_8 : decode cX10_runIn 8 = .ok (.invokestatic 194, 3) := by decide +kernel
theorem dX10_runIn_11 : decode cX10_runIn 11 = .ok (.iconst 0, 1) := by decide +kernel
theorem dX10_runIn_12 : decode cX10_runIn 12 = .ok (.istore 4, 2) := by decide +kernel
theorem dX10_runIn_14 : decode cX10_runIn 14 = .ok (.iload 4, 2) := by decide +kernel
theorem dX10_runIn_16 : decode cX10_runIn 16 = .ok (.aload_n 0, 1) := by decide +kernel
theorem dX10_runIn_17 : decode cX10_runIn 17 = .ok (.iload_n 1, 1) := by decide +kernel
theorem dX10_runIn_18 : decode cX10_runIn 18 = .ok (.iconst 0, 1) := by decide +kernel
theorem dX10_runIn_19 : decode cX10_runIn 19 = .ok (.invokevirtual 153, 3) := by decide +kernel
theorem dX10_runIn_22 : decode cX10_runIn 22 = .ok (.if_icmp .ge 24, 3) := by decide +kernel
theorem dX10_runIn_25 : decode cX10_runIn 25 = .ok (.aload_n 0, 1) := by decide +kernel
theorem dX10_runIn_26 : decode cX10_runIn 26 = .ok (.aload_n 0, 1) := by decide +kernel
theorem dX10_runIn_27 : decode cX10_runIn 27 = .ok (.iload_n 1, 1) := by decide +kernel
theorem dX10_runIn_28 : decode cX10_runIn 28 = .ok (.iconst 2, 1) := by decide +kernel
theorem dX10_runIn_29 : decode cX10_runIn 29 = .ok (.iload 4, 2) := by decide +kernel
theorem dX10_runIn_31 : decode cX10_runIn 31 = .ok (.iadd, 1) := by decide +kernel
theorem dX10_runIn_32 : decode cX10_runIn 32 = .ok (.invokevirtual 153, 3) := by decide +kernel
theorem dX10_runIn_35 : decode cX10_runIn 35 = .ok (.iconst 4, 1) := by decide +kernel
theorem dX10_runIn_36 : decode cX10_runIn 36 = .ok (.iload_n 2, 1) := by decide +kernel
theorem dX10_runIn_37 : decode cX10_runIn 37 = .ok (.invokevirtual 68, 3) := by decide +kernel
theorem dX10_runIn_40 : decode cX10_runIn 40 = .ok (.iinc 4 1, 3) := by decide +kernel
theorem dX10_runIn_43 : decode cX10_runIn 43 = .ok (.goto (-29), 3) := by decide +kernel
theorem dX10_runIn_46 : decode cX10_runIn 46 = .ok (.aload_n 0, 1) := by decide +kernel
theorem dX10_runIn_47 : decode cX10_runIn 47 = .ok (.iload_n 1, 1) := by decide +kernel
theorem dX10_runIn_48 : decode cX10_runIn 48 = .ok (.iload_n 3, 1) := by decide +kernel
theorem dX10_runIn_49 : decode cX10_runIn 49 = .ok (.invokevirtual 201, 3) := by decide +kernel
theorem dX10_runIn_52 : decode cX10_runIn 52 = .ok (.istore 4, 2) := by decide +kernel
theorem dX10_runIn_54 : decode cX10_runIn 54 = .ok (.aload_n 0, 1) := by decide +kernel
theorem dX10_runIn_55 : decode cX10_runIn 55 = .ok (.getfield 40, 3) := by decide +kernel
theorem dX10_runIn_58 : decode cX10_runIn 58 = .ok (.aload_n 0, 1) := by decide +kernel
theorem dX10_runIn_59 : decode cX10_runIn 59 = .ok (.getfield 7, 3) := by decide +kernel
theorem dX10_runIn_62 : decode cX10_runIn 62 = .ok (.invokestatic 194, 3) := by decide +kernel
theorem dX10_runIn_65 : decode cX10_runIn 65 = .ok (.iload 4, 2) := by decide +kernel
theorem dX10_runIn_67 : decode cX10_runIn 67 = .ok (.ireturn, 1) := by decide +kernel
def fX10_runIn_B46 (v1 : Int32) (v3 : Int32) (M : Mm) : Option (Int32 × Mm) :=
  bd (fX10_runOf v1 v3 M) fun r5 M6 =>
  bd (fX10_carry_11_1 M6) fun r7 M8 =>
  some (r5, M8)
theorem tX10_runIn_B46 (l : Launch) (G : Gx) (v1 : Int32) (v3 : Int32) (M : Mm) : Sim cQi l layM G 8 cX10_runIn RX10 5 (some .int) 46 [(0, rf G 0), (1, .int v1), (3, .int v3)] [] M (fX10_runIn_B46 v1 v3 M) := by
  unfold fX10_runIn_B46
  refine s_aload_n 0 dX10_runIn_46 rfl rfl ?_
  refine s_iload_n 1 dX10_runIn_47 rfl rfl ?_
  refine s_iload_n 2 dX10_runIn_48 rfl rfl ?_
  refine s_call_i (s_runV (ci := 10) (rest := []) rfl rfl (mX10_runOf l G v1 v3 M) ok_X10_runOf k_X10_201 rfl rfl rfl rfl dX10_runIn_49) fun r5 M6 => ?_
  refine s_istore (lv' := [(4, .int r5), (0, rf G 0), (1, .int v1), (3, .int v3)]) dX10_runIn_52 rfl rfl ?_
  refine s_aload_n 1 dX10_runIn_54 rfl rfl ?_
  refine g_X10_40 (q := 11) rfl rfl dX10_runIn_55 ?_
  refine s_aload_n 1 dX10_runIn_58 rfl rfl ?_
  refine g_X10_7 (q := 1) rfl rfl dX10_runIn_59 ?_
  refine s_call_v (s_runS (rest := []) (mX10_carry_11_1 l G M6) ok_X10_carry k_X10_194 rfl rfl rfl rfl dX10_runIn_62) fun r7 M8 => ?_
  refine s_iload 0 dX10_runIn_65 rfl ?_
  exact s_iret rfl dX10_runIn_67
def fX10_runIn_L14b (v1 : Int32) (v2 : Int32) (v3 : Int32) (q14 : Int32 → Mm → Option (Int32 × Mm)) (v4 : Int32) (M : Mm) : Option (Int32 × Mm) :=
  bd (fX10_of v1 (0 : Int32) M) fun r3 M4 =>
  if r3 ≤ v4 then (fX10_runIn_B46 v1 v3 M4)
  else bd (fX10_of v1 ((2 : Int32) + v4) M4) fun r9 M10 =>
  bd (fX10_lays1 r9 (4 : Int32) v2 M10) fun r11 M12 =>
  q14 (v4 + 1) M12
def fX10_runIn_L14 (v1 : Int32) (v2 : Int32) (v3 : Int32) : Nat → Int32 → Mm → Option (Int32 × Mm)
  | 0 => fun _ _ => none
  | n + 1 => fX10_runIn_L14b v1 v2 v3 (fX10_runIn_L14 v1 v2 v3 n)
theorem tX10_runIn_L14b (l : Launch) (G : Gx) (v1 : Int32) (v2 : Int32) (v3 : Int32) (q14 : Int32 → Mm → Option (Int32 × Mm)) (hq14 : ∀ (v4 : Int32) (M : Mm), Sim cQi l layM G 8 cX10_runIn RX10 5 (some .int) 14 [(4, .int v4), (0, rf G 0), (1, .int v1), (2, .int v2), (3, .int v3)] [] M (q14 v4 M)) (v4 : Int32) (M : Mm) : Sim cQi l layM G 8 cX10_runIn RX10 5 (some .int) 14 [(4, .int v4), (0, rf G 0), (1, .int v1), (2, .int v2), (3, .int v3)] [] M (fX10_runIn_L14b v1 v2 v3 q14 v4 M) := by
  unfold fX10_runIn_L14b
  refine s_iload 0 dX10_runIn_14 rfl ?_
  refine s_aload_n 1 dX10_runIn_16 rfl rfl ?_
  refine s_iload_n 2 dX10_runIn_17 rfl rfl ?_
  refine s_iconst (v := 0) dX10_runIn_18 ci_0 ?_
  refine s_call_i (s_runV (ci := 10) (rest := [.int v4]) rfl rfl (mX10_of l G v1 (0 : Int32) M) ok_X10_of k_X10_153 rfl rfl rfl rfl dX10_runIn_19) fun r3 M4 => ?_
  refine s_icmpge (tgt := 46) dX10_runIn_22 (by decide) ?_ ?_
  · exact s_sub [1, 2, 4] rfl (tX10_runIn_B46 l G v1 v3 M4)
  · refine s_aload_n 1 dX10_runIn_25 rfl rfl ?_
    refine s_aload_n 1 dX10_runIn_26 rfl rfl ?_
    refine s_iload_n 2 dX10_runIn_27 rfl rfl ?_
    refine s_iconst (v := 2) dX10_runIn_28 ci_2 ?_
    refine s_iload 0 dX10_runIn_29 rfl ?_
    refine s_iadd dX10_runIn_31 ?_
    refine s_call_i (s_runV (ci := 10) (rest := [rf G 0]) rfl rfl (mX10_of l G v1 ((2 : Int32) + v4) M4) ok_X10_of k_X10_153 rfl rfl rfl rfl dX10_runIn_32) fun r9 M10 => ?_
    refine s_iconst (v := 4) dX10_runIn_35 ci_4 ?_
    refine s_iload_n 3 dX10_runIn_36 rfl rfl ?_
    refine s_call_v (s_runV (ci := 10) (rest := []) rfl rfl (mX10_lays1 l G r9 (4 : Int32) v2 M10) ok_X10_lays1 k_X10_68 rfl rfl rfl rfl dX10_runIn_37) fun r11 M12 => ?_
    refine s_iinc (k := 0) (lv' := [(4, .int (v4 + 1)), (0, rf G 0), (1, .int v1), (2, .int v2), (3, .int v3)]) dX10_runIn_40 rfl ci_1 rfl rfl ?_
    refine s_goto (tgt := 14) dX10_runIn_43 (by decide) ?_
    exact s_sub [0, 1, 2, 3, 4] rfl (hq14 (v4 + 1) M12)
theorem tX10_runIn_L14 (l : Launch) (G : Gx) (v1 : Int32) (v2 : Int32) (v3 : Int32) : ∀ (n : Nat) (v4 : Int32) (M : Mm), Sim cQi l layM G 8 cX10_runIn RX10 5 (some .int) 14 [(4, .int v4), (0, rf G 0), (1, .int v1), (2, .int v2), (3, .int v3)] [] M (fX10_runIn_L14 v1 v2 v3 n v4 M)
  | 0, _, _ => s_none
  | n + 1, v4, M => tX10_runIn_L14b l G v1 v2 v3 _ (tX10_runIn_L14 l G v1 v2 v3 n) v4 M
def fX10_runIn (a1 : Int32) (a2 : Int32) (a3 : Int32) (M : Mm) : Option (Int32 × Mm) :=
  bd (fX10_carry_1_11 M) fun r1 M2 =>
  fX10_runIn_L14 a1 a2 a3 FU (0 : Int32) M2
theorem mX10_runIn (l : Launch) (G : Gx) (a1 : Int32) (a2 : Int32) (a3 : Int32) (M : Mm) : Mt cQi l layM G 8 yX10_runIn cX10_runIn 5 (some .int) [rf G 0, .int a1, .int a2, .int a3] M (fX10_runIn a1 a2 a3 M) := by
  refine Mt.of2 (own := RX10) (lv := [(0, rf G 0), (1, .int a1), (2, .int a2), (3, .int a3)]) rfl (by decide +kernel) rfl rfl ?_
  unfold fX10_runIn
  refine s_aload_n 0 dX10_runIn_0 rfl rfl ?_
  refine g_X10_7 (q := 1) rfl rfl dX10_runIn_1 ?_
  refine s_aload_n 0 dX10_runIn_4 rfl rfl ?_
  refine g_X10_40 (q := 11) rfl rfl dX10_runIn_5 ?_
  refine s_call_v (s_runS (rest := []) (mX10_carry_1_11 l G M) ok_X10_carry k_X10_194 rfl rfl rfl rfl dX10_runIn_8) fun r1 M2 => ?_
  refine s_iconst (v := 0) dX10_runIn_11 ci_0 ?_
  refine s_istore (lv' := [(4, .int (0 : Int32)), (0, rf G 0), (1, .int a1), (2, .int a2), (3, .int a3)]) dX10_runIn_12 rfl rfl ?_
  exact s_sub [0, 1, 2, 3, 4] rfl (tX10_runIn_L14 l G a1 a2 a3 FU (0 : Int32) M2)
theorem dX10_room_0 : decode cX10_room 0 = .ok (.iload_n 1, 1) := by decide +kernel
theorem dX10_room_1 : decode cX10_room 1 = .ok (.invokestatic 182, 3) := by decide +kernel
theorem dX10_room_4 : decode cX10_room 4 = .ok (.ifCond .eq 10, 3) := by decide +kernel
theorem dX10_room_7 : decode cX10_room 7 = .ok (.iload_n 2, 1) := by decide +kernel
theorem dX10_room_8 : decode cX10_room 8 = .ok (.invokestatic 198, 3) := by decide +kernel
theorem dX10_room_11 : decode cX10_room 11 = .ok (.ifCond .ne 9, 3) := by decide +kernel
theorem dX10_room_14 : decode cX10_room 14 = .ok (.aload_n 0, 1) := by decide +kernel
theorem dX10_room_15 : decode cX10_room 15 = .ok (.iconst 1, 1) := by decide +kernel
theorem dX10_room_16 : decode cX10_room 16 = .ok (.invokevirtual 75, 3) := by decide +kernel
theorem dX10_room_19 : decode cX10_room 19 = .ok (.ireturn, 1) := by decide +kernel
theorem dX10_room_20 : decode cX10_room 20 = .ok (.iconst 0, 1) := by decide +kernel
theorem dX10_room_21 : decode cX10_room 21 = .ok (.istore_n 3, 1) := by decide +kernel
theorem dX10_room_22 : decode cX10_room 22 = .ok (.iconst 1, 1) := by decide +kernel
theorem dX10_room_23 : decode cX10_room 23 = .ok (.istore 4, 2) := by decide +kernel
theorem dX10_room_25 : decode cX10_room 25 = .ok (.iload 4, 2) := by decide +kernel
theorem dX10_room_27 : decode cX10_room 27 = .ok (.iconst 4, 1) := by decide +kernel
theorem dX10_room_28 : decode cX10_room 28 = .ok (.if_icmp .ge 34, 3) := by decide +kernel
theorem dX10_room_31 : decode cX10_room 31 = .ok (.aload_n 0, 1) := by decide +kernel
theorem dX10_room_32 : decode cX10_room 32 = .ok (.iload_n 1, 1) := by decide +kernel
theorem dX10_room_33 : decode cX10_room 33 = .ok (.iload 4, 2) := by decide +kernel
theorem dX10_room_35 : decode cX10_room 35 = .ok (.iload_n 2, 1) := by decide +kernel
theorem dX10_room_36 : decode cX10_room 36 = .ok (.invokevirtual 216, 3) := by decide +kernel
theorem dX10_room_39 : decode cX10_room 39 = .ok (.aload_n 0, 1) := by decide +kernel
theorem dX10_room_40 : decode cX10_room 40 = .ok (.iload_n 1, 1) := by decide +kernel
theorem dX10_room_41 : decode cX10_room 41 = .ok (.iload_n 3, 1) := by decide +kernel
theorem dX10_room_42 : decode cX10_room 42 = .ok (.iload_n 2, 1) := by decide +kernel
theorem dX10_room_43 : decode cX10_room 43 = .ok (.invokevirtual 216, 3) := by decide +kernel
theorem dX10_room_46 : decode cX10_room 46 = .ok (.if_icmp .le 8, 3) := by decide +kernel
theorem dX10_room_49 : decode cX10_room 49 = .ok (.iload 4, 2) := by decide +kernel
theorem dX10_room_51 : decode cX10_room 51 = .ok (.goto 4, 3) := by decide +kernel
theorem dX10_room_54 : decode cX10_room 54 = .ok (.iload_n 3, 1) := by decide +kernel
theorem dX10_room_55 : decode cX10_room 55 = .ok (.istore_n 3, 1) := by decide +kernel
theorem dX10_room_56 : decode cX10_room 56 = .ok (.iinc 4 1, 3) := by decide +kernel
theorem dX10_room_59 : decode cX10_room 59 = .ok (.goto (-34), 3) := by decide +kernel
theorem dX10_room_62 : decode cX10_room 62 = .ok (.iload_n 3, 1) := by decide +kernel
theorem dX10_room_63 : decode cX10_room 63 = .ok (.ireturn, 1) := by decide +kernel
def fX10_room_B14 (M : Mm) : Option (Int32 × Mm) :=
  bd (fX10_error (1 : Int32) M) fun r5 M6 =>
  some (r5, M6)
theorem tX10_room_B14 (l : Launch) (G : Gx) (M : Mm) : Sim cQi l layM G 9 cX10_room RX10 5 (some .int) 14 [(0, rf G 0)] [] M (fX10_room_B14 M) := by
  unfold fX10_room_B14
  refine s_aload_n 0 dX10_room_14 rfl rfl ?_
  refine s_iconst (v := 1) dX10_room_15 ci_1 ?_
  refine s_call_i (s_runV (ci := 10) (rest := []) rfl rfl (mX10_error l G (1 : Int32) M) ok_X10_error k_X10_75 rfl rfl rfl rfl dX10_room_16) fun r5 M6 => ?_
  exact s_iret rfl dX10_room_19
def fX10_room_B62 (v3 : Int32) (M : Mm) : Option (Int32 × Mm) :=
  some (v3, M)
theorem tX10_room_B62 (l : Launch) (G : Gx) (v3 : Int32) (M : Mm) : Sim cQi l layM G 9 cX10_room RX10 5 (some .int) 62 [(3, .int v3)] [] M (fX10_room_B62 v3 M) := by
  unfold fX10_room_B62
  refine s_iload_n 0 dX10_room_62 rfl rfl ?_
  exact s_iret rfl dX10_room_63
def fX10_room_B55 (q25 : Int32 → Int32 → Mm → Option (Int32 × Mm)) (v4 : Int32) (v1 : Int32) (v2 : Int32) (w0 : Int32) (M : Mm) : Option (Int32 × Mm) :=
  q25 (v4 + 1) w0 M
theorem tX10_room_B55 (l : Launch) (G : Gx) (v4 : Int32) (v1 : Int32) (v2 : Int32) (w0 : Int32) (q25 : Int32 → Int32 → Mm → Option (Int32 × Mm)) (hq25 : ∀ (v4 : Int32) (v3 : Int32) (M : Mm), Sim cQi l layM G 9 cX10_room RX10 5 (some .int) 25 [(4, .int v4), (3, .int v3), (0, rf G 0), (1, .int v1), (2, .int v2)] [] M (q25 v4 v3 M)) (M : Mm) : Sim cQi l layM G 9 cX10_room RX10 5 (some .int) 55 [(4, .int v4), (0, rf G 0), (1, .int v1), (2, .int v2)] [.int w0] M (fX10_room_B55 q25 v4 v1 v2 w0 M) := by
  unfold fX10_room_B55
  refine s_istore_n (lv' := [(3, .int w0), (4, .int v4), (0, rf G 0), (1, .int v1), (2, .int v2)]) dX10_room_55 rfl rfl rfl ?_
  refine s_iinc (k := 1) (lv' := [(4, .int (v4 + 1)), (3, .int w0), (0, rf G 0), (1, .int v1), (2, .int v2)]) dX10_room_56 rfl ci_1 rfl rfl ?_
  refine s_goto (tgt := 25) dX10_room_59 (by decide) ?_
  exact s_sub [0, 1, 2, 3, 4] rfl (hq25 (v4 + 1) w0 M)
def fX10_room_L25b (v1 : Int32) (v2 : Int32) (q25 : Int32 → Int32 → Mm → Option (Int32 × Mm)) (v4 : Int32) (v3 : Int32) (M : Mm) : Option (Int32 × Mm) :=
  if (4 : Int32) ≤ v4 then (fX10_room_B62 v3 M)
  else bd (fX10_runIn v1 v4 v2 M) fun r7 M8 =>
  bd (fX10_runIn v1 v3 v2 M8) fun r9 M10 =>
  if r7 ≤ r9 then (fX10_room_B55 q25 v4 v1 v2 v3 M10)
  else fX10_room_B55 q25 v4 v1 v2 v4 M10
def fX10_room_L25 (v1 : Int32) (v2 : Int32) : Nat → Int32 → Int32 → Mm → Option (Int32 × Mm)
  | 0 => fun _ _ _ => none
  | n + 1 => fX10_room_L25b v1 v2 (fX10_room_L25 v1 v2 n)
theorem tX10_room_L25b (l : Launch) (G : Gx) (v1 : Int32) (v2 : Int32) (q25 : Int32 → Int32 → Mm → Option (Int32 × Mm)) (hq25 : ∀ (v4 : Int32) (v3 : Int32) (M : Mm), Sim cQi l layM G 9 cX10_room RX10 5 (some .int) 25 [(4, .int v4), (3, .int v3), (0, rf G 0), (1, .int v1), (2, .int v2)] [] M (q25 v4 v3 M)) (v4 : Int32) (v3 : Int32) (M : Mm) : Sim cQi l layM G 9 cX10_room RX10 5 (some .int) 25 [(4, .int v4), (3, .int v3), (0, rf G 0), (1, .int v1), (2, .int v2)] [] M (fX10_room_L25b v1 v2 q25 v4 v3 M) := by
  unfold fX10_room_L25b
  refine s_iload 0 dX10_room_25 rfl ?_
  refine s_iconst (v := 4) dX10_room_27 ci_4 ?_
  refine s_icmpge (tgt := 62) dX10_room_28 (by decide) ?_ ?_
  · exact s_sub [1] rfl (tX10_room_B62 l G v3 M)
  · refine s_aload_n 2 dX10_room_31 rfl rfl ?_
    refine s_iload_n 3 dX10_room_32 rfl rfl ?_
    refine s_iload 0 dX10_room_33 rfl ?_
    refine s_iload_n 4 dX10_room_35 rfl rfl ?_
    refine s_call_i (s_runV (ci := 10) (rest := []) rfl rfl (mX10_runIn l G v1 v4 v2 M) ok_X10_runIn k_X10_216 rfl rfl rfl rfl dX10_room_36) fun r7 M8 => ?_
    refine s_aload_n 2 dX10_room_39 rfl rfl ?_
    refine s_iload_n 3 dX10_room_40 rfl rfl ?_
    refine s_iload_n 1 dX10_room_41 rfl rfl ?_
    refine s_iload_n 4 dX10_room_42 rfl rfl ?_
    refine s_call_i (s_runV (ci := 10) (rest := [.int r7]) rfl rfl (mX10_runIn l G v1 v3 v2 M8) ok_X10_runIn k_X10_216 rfl rfl rfl rfl dX10_room_43) fun r9 M10 => ?_
    refine s_icmple (tgt := 54) dX10_room_46 (by decide) ?_ ?_
    · refine s_iload_n 1 dX10_room_54 rfl rfl ?_
      exact s_sub [0, 2, 3, 4] rfl (tX10_room_B55 l G v4 v1 v2 v3 q25 hq25 M10)
    · refine s_iload 0 dX10_room_49 rfl ?_
      refine s_goto (tgt := 55) dX10_room_51 (by decide) ?_
      exact s_sub [0, 2, 3, 4] rfl (tX10_room_B55 l G v4 v1 v2 v4 q25 hq25 M10)
theorem tX10_room_L25 (l : Launch) (G : Gx) (v1 : Int32) (v2 : Int32) : ∀ (n : Nat) (v4 : Int32) (v3 : Int32) (M : Mm), Sim cQi l layM G 9 cX10_room RX10 5 (some .int) 25 [(4, .int v4), (3, .int v3), (0, rf G 0), (1, .int v1), (2, .int v2)] [] M (fX10_room_L25 v1 v2 n v4 v3 M)
  | 0, _, _, _ => s_none
  | n + 1, v4, v3, M => tX10_room_L25b l G v1 v2 _ (tX10_room_L25 l G v1 v2 n) v4 v3 M
def fX10_room (a1 : Int32) (a2 : Int32) (M : Mm) : Option (Int32 × Mm) :=
  bd (fX10_isPage a1 M) fun r1 M2 =>
  if r1 = true then (bd (fX10_isAhead a2 M2) fun r3 M4 =>
  if r3 = true then (fX10_room_L25 a1 a2 FU (1 : Int32) (0 : Int32) M4)
  else fX10_room_B14 M4)
  else fX10_room_B14 M2
theorem mX10_room (l : Launch) (G : Gx) (a1 : Int32) (a2 : Int32) (M : Mm) : Mt cQi l layM G 9 yX10_room cX10_room 5 (some .int) [rf G 0, .int a1, .int a2] M (fX10_room a1 a2 M) := by
  refine Mt.of2 (own := RX10) (lv := [(0, rf G 0), (1, .int a1), (2, .int a2)]) rfl (by decide +kernel) rfl rfl ?_
  unfold fX10_room
  refine s_iload_n 1 dX10_room_0 rfl rfl ?_
  refine s_call_z (s_runS (rest := []) (mX10_isPage l G a1 M) ok_X10_isPage k_X10_182 rfl rfl rfl rfl dX10_room_1) fun r1 M2 => ?_
  refine s_ifeqB (tgt := 14) dX10_room_4 (by decide) ?_ ?_
  · exact s_sub [0] rfl (tX10_room_B14 l G M2)
  · refine s_iload_n 2 dX10_room_7 rfl rfl ?_
    refine s_call_z (s_runS (rest := []) (mX10_isAhead l G a2 M2) ok_X10_isAhead k_X10_198 rfl rfl rfl rfl dX10_room_8) fun r3 M4 => ?_
    refine s_ifneB (tgt := 20) dX10_room_11 (by decide) ?_ ?_
    · refine s_iconst (v := 0) dX10_room_20 ci_0 ?_
      refine s_istore_n (lv' := [(3, .int (0 : Int32)), (0, rf G 0), (1, .int a1), (2, .int a2)]) dX10_room_21 rfl rfl rfl ?_
      refine s_iconst (v := 1) dX10_room_22 ci_1 ?_
      refine s_istore (lv' := [(4, .int (1 : Int32)), (3, .int (0 : Int32)), (0, rf G 0), (1, .int a1), (2, .int a2)]) dX10_room_23 rfl rfl ?_
      exact s_sub [0, 1, 2, 3, 4] rfl (tX10_room_L25 l G a1 a2 FU (1 : Int32) (0 : Int32) M4)
    · exact s_sub [0] rfl (tX10_room_B14 l G M4)
theorem dX10_lasts_0 : decode cX10_lasts 0 = .ok (.aload_n 0, 1) := by decide +kernel
theorem dX10_lasts_1 : decode cX10_lasts 1 = .ok (.getfield 7, 3) := by decide +kernel
theorem dX10_lasts_4 : decode cX10_lasts 4 = .ok (.aload_n 0, 1) := by decide +kernel
theorem dX10_lasts_5 : decode cX10_lasts 5 = .ok (.getfield 16, 3) := by decide +kernel
theorem dX10_lasts_8 : decode cX10_lasts 8 = .ok (.invokestatic 194, 3) := by decide +kernel
theorem dX10_lasts_11 : decode cX10_lasts 11 = .ok (.aload_n 0, 1) := by decide +kernel
theorem dX10_lasts_12 : decode cX10_lasts 12 = .ok (.iload_n 1, 1) := by decide +kernel
theorem dX10_lasts_13 : decode cX10_lasts 13 = .ok (.iconst 3, 1) := by decide +kernel
theorem dX10_lasts_14 : decode cX10_lasts 14 = .ok (.iload_n 2, 1) := by decide +kernel
theorem dX10_lasts_15 : decode cX10_lasts 15 = .ok (.invokevirtual 68, 3) := by decide +kernel
theorem dX10_lasts_18 : decode cX10_lasts 18 = .ok (.iconst 1, 1) := by decide +kernel
theorem dX10_lasts_19 : decode cX10_lasts 19 = .ok (.istore 4, 2) := by decide +kernel
theorem dX10_lasts_21 : decode cX10_lasts 21 = .ok (.iconst 0, 1) := by decide +kernel
theorem dX10_lasts_22 : decode cX10_lasts 22 = .ok (.istore 5, 2) := by decide +kernel
theorem dX10_lasts_24 : decode cX10_lasts 24 = .ok (.iload 5, 2) := by decide +kernel
theorem dX10_lasts_26 : decode cX10_lasts 26 = .ok (.iload_n 3, 1) := by decide +kernel
theorem dX10_lasts_27 : decode cX10_lasts 27 = .ok (.if_icmp .ge 98, 3) := by decide +kernel
theorem dX10_lasts_30 : decode cX10_lasts 30 = .ok (.iload 4, 2) := by decide +kernel
theorem dX10_lasts_32 : decode cX10_lasts 32 = .ok (.ifCond .eq 93, 3) := by decide +kernel
theorem dX10_lasts_35 : decode cX10_lasts 35 = .ok (.aload_n 0, 1) := by decide +kernel
theorem dX10_lasts_36 : decode cX10_lasts 36 = .ok (.iload_n 1, 1) := by decide +kernel
theorem dX10_lasts_37 : decode cX10_lasts 37 = .ok (.invokevirtual 159, 3) := by decide +kernel
theorem dX10_lasts_40 : decode cX10_lasts 40 = .ok (.iconst 3, 1) := by decide +kernel
theorem dX10_lasts_41 : decode cX10_lasts 41 = .ok (.if_icmp .lt 7, 3) := by decide +kernel
theorem dX10_lasts_44 : decode cX10_lasts 44 = .ok (.iconst 1, 1) := by decide +kernel
theorem dX10_lasts_45 : decode cX10_lasts 45 = .ok (.goto 4, 3) := by decide +kernel
theorem dX10_lasts_48 : decode cX10_lasts 48 = .ok (.iconst 0, 1) := by decide +kernel
theorem dX10_lasts_49 : decode cX10_lasts 49 = .ok (.istore 4, 2) := by decide +kernel
theorem dX10_lasts_51 : decode cX10_lasts 51 = .ok (.aload_n 0, 1) := by decide +kernel
theorem dX10_lasts_52 : decode cX10_lasts 52 = .ok (.iload_n 1, 1) := by decide +kernel
theorem dX10_lasts_53 : decode cX10_lasts 53 = .ok (.invokevirtual 156, 3) := by decide +kernel
theorem dX10_lasts_56 : decode cX10_lasts 56 = .ok (.istore 6, 2) := by decide +kernel
theorem dX10_lasts_58 : decode cX10_lasts 58 = .ok (.aload_n 0, 1) := by decide +kernel
theorem dX10_lasts_59 : decode cX10_lasts 59 = .ok (.iload_n 1, 1) := by decide +kernel
theorem dX10_lasts_60 : decode cX10_lasts 60 = .ok (.iconst 3, 1) := by decide +kernel
theorem dX10_lasts_61 : decode cX10_lasts 61 = .ok (.aload_n 0, 1) := by decide +kernel
theorem dX10_lasts_62 : decode cX10_lasts 62 = .ok (.iload_n 1, 1) := by decide +kernel
theorem dX10_lasts_63 : decode cX10_lasts 63 = .ok (.iconst 3, 1) := by decide +kernel
theorem dX10_lasts_64 : decode cX10_lasts 64 = .ok (.invokevirtual 137, 3) := by decide +kernel
theorem dX10_lasts_67 : decode cX10_lasts 67 = .ok (.iload 6, 2) := by decide +kernel
theorem dX10_lasts_69 : decode cX10_lasts 69 = .ok (.isub, 1) := by decide +kernel
theorem dX10_lasts_70 : decode cX10_lasts 70 = .ok (.invokevirtual 68, 3) := by decide +kernel
theorem dX10_lasts_73 : decode cX10_lasts 73 = .ok (.aload_n 0, 1) := by decide +kernel
theorem dX10_lasts_74 : decode cX10_lasts 74 = .ok (.iload_n 1, 1) := by decide +kernel
theorem dX10_lasts_75 : decode cX10_lasts 75 = .ok (.bipush 6, 2) := by decide +kernel
theorem dX10_lasts_77 : decode cX10_lasts 77 = .ok (.aload_n 0, 1) := by decide +kernel
theorem dX10_lasts_78 : decode cX10_lasts 78 = .ok (.iload_n 1, 1) := by decide +kernel
theorem dX10_lasts_79 : decode cX10_lasts 79 = .ok (.bipush 6, 2) := by decide +kernel
theorem dX10_lasts_81 : decode cX10_lasts 81 = .ok (.invokevirtual 137, 3) := by decide +kernel
theorem dX10_lasts_84 : decode cX10_lasts 84 = .ok (.iconst 1, 1) := by decide +kernel
theorem dX10_lasts_85 : decode cX10_lasts 85 = .ok (.iadd, 1) := by decide +kernel
theorem dX10_lasts_86 : decode cX10_lasts 86 = .ok (.iconst 0, 1) := by decide +kernel
theorem dX10_lasts_87 : decode cX10_lasts 87 = .ok (.bipush 99, 2) := by decide +kernel
theorem dX10_lasts_89 : decode cX10_lasts 89 = .ok (.invokestatic 64, 3) := by decide +kernel
theorem dX10_lasts_92 : decode cX10_lasts 92 = .ok (.invokevirtual 68, 3) := by decide +kernel
theorem dX10_lasts_95 : decode cX10_lasts 95 = .ok (.aload_n 0, 1) := by decide +kernel
theorem dX10_lasts_96 : decode cX10_lasts 96 = .ok (.getfield 7, 3) := by decide +kernel
theorem dX10_lasts_99 : decode cX10_lasts 99 = .ok (.sipush 180, 3) := by decide +kernel
theorem dX10_lasts_102 : decode cX10_lasts 102 = .ok (.bipush 10, 2) := by decide +kernel
theorem dX10_lasts_104 : decode cX10_lasts 104 = .ok (.aload_n 0, 1) := by decide +kernel
theorem dX10_lasts_105 : decode cX10_lasts 105 = .ok (.iload_n 1, 1) := by decide +kernel
theorem dX10_lasts_106 : decode cX10_lasts 106 = .ok (.iconst 5, 1) := by decide +kernel
theorem dX10_lasts_107 : decode cX10_lasts 107 = .ok (.invokevirtual 137, 3) := by decide +kernel
theorem dX10_lasts_110 : decode cX10_lasts 110 = .ok (.imul, 1) := by decide +kernel
theorem dX10_lasts_111 : decode cX10_lasts 111 = .ok (.iadd, 1) := by decide +kernel
theorem dX10_lasts_112 : decode cX10_lasts 112 = .ok (.iconst 1, 1) := by decide +kernel
theorem dX10_lasts_113 : decode cX10_lasts 113 = .ok (.iadd, 1) := by decide +kernel
theorem dX10_lasts_114 : decode cX10_lasts 114 = .ok (.dup2, 1) := by decide +kernel
theorem dX10_lasts_115 : decode cX10_lasts 115 = .ok (.iaload, 1) := by decide +kernel
theorem dX10_lasts_116 : decode cX10_lasts 116 = .ok (.iconst 1, 1) := by decide +kernel
theorem dX10_lasts_117 : decode cX10_lasts 117 = .ok (.iadd, 1) := by decide +kernel
theorem dX10_lasts_118 : decode cX10_lasts 118 = .ok (.iastore, 1) := by decide +kernel
theorem dX10_lasts_119 : decode cX10_lasts 119 = .ok (.iinc 5 1, 3) := by decide +kernel
theorem dX10_lasts_122 : decode cX10_lasts 122 = .ok (.goto (-98), 3) := by decide +kernel
theorem dX10_lasts_125 : decode cX10_lasts 125 = .ok (.aload_n 0, 1) := by decide +kernel
theorem dX10_lasts_126 : decode cX10_lasts 126 = .ok (.getfield 16, 3) := by decide +kernel
theorem dX10_lasts_129 : decode cX10_lasts 129 = .ok (.aload_n 0, 1) := by decide +kernel
theorem dX10_lasts_130 : decode cX10_lasts 130 = .ok (.getfield 7, 3) := by decide +kernel
theorem dX10_lasts_133 : decode cX10_lasts 133 = .ok (.invokestatic 194, 3) := by decide +kernel
theorem dX10_lasts_136 : decode cX10_lasts 136 = .ok (.iload 4, 2) := by decide +kernel
theorem dX10_lasts_138 : decode cX10_lasts 138 = .ok (.ireturn, 1) := by decide +kernel
def fX10_lasts_B125 (v4 : Int32) (M : Mm) : Option (Bool × Mm) :=
  bd (fX10_carry_3_1 M) fun r5 M6 =>
  gd (isb v4) (some (decide (v4 = 1), M6))
theorem tX10_lasts_B125 (l : Launch) (G : Gx) (v4 : Int32) (M : Mm) : Sim cQz l layM G 5 cX10_lasts RX10 7 (some .boolean) 125 [(4, .int v4), (0, rf G 0)] [] M (fX10_lasts_B125 v4 M) := by
  unfold fX10_lasts_B125
  refine s_aload_n 1 dX10_lasts_125 rfl rfl ?_
  refine g_X10_16 (q := 3) rfl rfl dX10_lasts_126 ?_
  refine s_aload_n 1 dX10_lasts_129 rfl rfl ?_
  refine g_X10_7 (q := 1) rfl rfl dX10_lasts_130 ?_
  refine s_call_v (s_runS (rest := []) (mX10_carry_3_1 l G M) ok_X10_carry k_X10_194 rfl rfl rfl rfl dX10_lasts_133) fun r5 M6 => ?_
  refine s_iload 0 dX10_lasts_136 rfl ?_
  exact s_zretI rfl dX10_lasts_138
def fX10_lasts_B49 (q24 : Int32 → Int32 → Mm → Option (Bool × Mm)) (v5 : Int32) (v1 : Int32) (v3 : Int32) (w0 : Int32) (M : Mm) : Option (Bool × Mm) :=
  bd (fX10_melts v1 M) fun r9 M10 =>
  bd (fX10_its v1 (3 : Int32) M10) fun r11 M12 =>
  bd (fX10_lays1 v1 (3 : Int32) (r11 - r9) M12) fun r13 M14 =>
  bd (fX10_its v1 (6 : Int32) M14) fun r15 M16 =>
  bd (fX10_held (r15 + (1 : Int32)) (0 : Int32) (99 : Int32) M16) fun r17 M18 =>
  bd (fX10_lays1 v1 (6 : Int32) r17 M18) fun r19 M20 =>
  bd (fX10_its v1 (5 : Int32) M20) fun r21 M22 =>
  gd (inb (((180 : Int32) + ((10 : Int32) * r21)) + (1 : Int32)) 626) <|
  lt (wr M22 1 (ix (((180 : Int32) + ((10 : Int32) * r21)) + (1 : Int32))) ((M22 1 (ix (((180 : Int32) + ((10 : Int32) * r21)) + (1 : Int32)))) + (1 : Int32))) fun M24 =>
  q24 (v5 + 1) w0 M24
theorem tX10_lasts_B49 (l : Launch) (G : Gx) (v5 : Int32) (v1 : Int32) (v3 : Int32) (w0 : Int32) (q24 : Int32 → Int32 → Mm → Option (Bool × Mm)) (hq24 : ∀ (v5 : Int32) (v4 : Int32) (M : Mm), Sim cQz l layM G 5 cX10_lasts RX10 7 (some .boolean) 24 [(5, .int v5), (4, .int v4), (0, rf G 0), (1, .int v1), (3, .int v3)] [] M (q24 v5 v4 M)) (M : Mm) : Sim cQz l layM G 5 cX10_lasts RX10 7 (some .boolean) 49 [(5, .int v5), (0, rf G 0), (1, .int v1), (3, .int v3)] [.int w0] M (fX10_lasts_B49 q24 v5 v1 v3 w0 M) := by
  unfold fX10_lasts_B49
  refine s_istore (lv' := [(4, .int w0), (5, .int v5), (0, rf G 0), (1, .int v1), (3, .int v3)]) dX10_lasts_49 rfl rfl ?_
  refine s_aload_n 2 dX10_lasts_51 rfl rfl ?_
  refine s_iload_n 3 dX10_lasts_52 rfl rfl ?_
  refine s_call_i (s_runV (ci := 10) (rest := []) rfl rfl (mX10_melts l G v1 M) ok_X10_melts k_X10_156 rfl rfl rfl rfl dX10_lasts_53) fun r9 M10 => ?_
  refine s_istore (lv' := [(6, .int r9), (4, .int w0), (5, .int v5), (0, rf G 0), (1, .int v1), (3, .int v3)]) dX10_lasts_56 rfl rfl ?_
  refine s_aload_n 3 dX10_lasts_58 rfl rfl ?_
  refine s_iload_n 4 dX10_lasts_59 rfl rfl ?_
  refine s_iconst (v := 3) dX10_lasts_60 ci_3 ?_
  refine s_aload_n 3 dX10_lasts_61 rfl rfl ?_
  refine s_iload_n 4 dX10_lasts_62 rfl rfl ?_
  refine s_iconst (v := 3) dX10_lasts_63 ci_3 ?_
  refine s_call_i (s_runV (ci := 10) (rest := [.int (3 : Int32), .int v1, rf G 0]) rfl rfl (mX10_its l G v1 (3 : Int32) M10) ok_X10_its k_X10_137 rfl rfl rfl rfl dX10_lasts_64) fun r11 M12 => ?_
  refine s_iload 0 dX10_lasts_67 rfl ?_
  refine s_isub dX10_lasts_69 ?_
  refine s_call_v (s_runV (ci := 10) (rest := []) rfl rfl (mX10_lays1 l G v1 (3 : Int32) (r11 - r9) M12) ok_X10_lays1 k_X10_68 rfl rfl rfl rfl dX10_lasts_70) fun r13 M14 => ?_
  refine s_aload_n 3 dX10_lasts_73 rfl rfl ?_
  refine s_iload_n 4 dX10_lasts_74 rfl rfl ?_
  refine s_bipush (v := 6) dX10_lasts_75 cb_6 ?_
  refine s_aload_n 3 dX10_lasts_77 rfl rfl ?_
  refine s_iload_n 4 dX10_lasts_78 rfl rfl ?_
  refine s_bipush (v := 6) dX10_lasts_79 cb_6 ?_
  refine s_call_i (s_runV (ci := 10) (rest := [.int (6 : Int32), .int v1, rf G 0]) rfl rfl (mX10_its l G v1 (6 : Int32) M14) ok_X10_its k_X10_137 rfl rfl rfl rfl dX10_lasts_81) fun r15 M16 => ?_
  refine s_iconst (v := 1) dX10_lasts_84 ci_1 ?_
  refine s_iadd dX10_lasts_85 ?_
  refine s_iconst (v := 0) dX10_lasts_86 ci_0 ?_
  refine s_bipush (v := 99) dX10_lasts_87 cb_99 ?_
  refine s_call_i (s_runS (rest := [.int (6 : Int32), .int v1, rf G 0]) (mX10_held l G (r15 + (1 : Int32)) (0 : Int32) (99 : Int32) M16) ok_X10_held k_X10_64 rfl rfl rfl rfl dX10_lasts_89) fun r17 M18 => ?_
  refine s_call_v (s_runV (ci := 10) (rest := []) rfl rfl (mX10_lays1 l G v1 (6 : Int32) r17 M18) ok_X10_lays1 k_X10_68 rfl rfl rfl rfl dX10_lasts_92) fun r19 M20 => ?_
  refine s_aload_n 3 dX10_lasts_95 rfl rfl ?_
  refine g_X10_7 (q := 1) rfl rfl dX10_lasts_96 ?_
  refine s_sipush (v := 180) dX10_lasts_99 cs_180 ?_
  refine s_bipush (v := 10) dX10_lasts_102 cb_10 ?_
  refine s_aload_n 3 dX10_lasts_104 rfl rfl ?_
  refine s_iload_n 4 dX10_lasts_105 rfl rfl ?_
  refine s_iconst (v := 5) dX10_lasts_106 ci_5 ?_
  refine s_call_i (s_runV (ci := 10) (rest := [.int (10 : Int32), .int (180 : Int32), rf G 1]) rfl rfl (mX10_its l G v1 (5 : Int32) M20) ok_X10_its k_X10_137 rfl rfl rfl rfl dX10_lasts_107) fun r21 M22 => ?_
  refine s_imul dX10_lasts_110 ?_
  refine s_iadd dX10_lasts_111 ?_
  refine s_iconst (v := 1) dX10_lasts_112 ci_1 ?_
  refine s_iadd dX10_lasts_113 ?_
  refine s_dup2 dX10_lasts_114 rfl rfl ?_
  refine s_gd fun h23 => ?_
  refine s_iald (n := 626) rfl h23 dX10_lasts_115 ?_
  refine s_iconst (v := 1) dX10_lasts_116 ci_1 ?_
  refine s_iadd dX10_lasts_117 ?_
  refine s_iast (n := 626) rfl h23 dX10_lasts_118 ?_
  refine s_letM fun M24 => ?_
  refine s_iinc (k := 2) (lv' := [(5, .int (v5 + 1)), (6, .int r9), (4, .int w0), (0, rf G 0), (1, .int v1), (3, .int v3)]) dX10_lasts_119 rfl ci_1 rfl rfl ?_
  refine s_goto (tgt := 24) dX10_lasts_122 (by decide) ?_
  exact s_sub [0, 2, 3, 4, 5] rfl (hq24 (v5 + 1) w0 M24)
def fX10_lasts_L24b (v1 : Int32) (v3 : Int32) (q24 : Int32 → Int32 → Mm → Option (Bool × Mm)) (v5 : Int32) (v4 : Int32) (M : Mm) : Option (Bool × Mm) :=
  if v3 ≤ v5 then (fX10_lasts_B125 v4 M)
  else if v4 = 0 then (fX10_lasts_B125 v4 M)
  else bd (fX10_sees v1 M) fun r7 M8 =>
  if r7 < (3 : Int32) then (fX10_lasts_B49 q24 v5 v1 v3 (0 : Int32) M8)
  else fX10_lasts_B49 q24 v5 v1 v3 (1 : Int32) M8
def fX10_lasts_L24 (v1 : Int32) (v3 : Int32) : Nat → Int32 → Int32 → Mm → Option (Bool × Mm)
  | 0 => fun _ _ _ => none
  | n + 1 => fX10_lasts_L24b v1 v3 (fX10_lasts_L24 v1 v3 n)
theorem tX10_lasts_L24b (l : Launch) (G : Gx) (v1 : Int32) (v3 : Int32) (q24 : Int32 → Int32 → Mm → Option (Bool × Mm)) (hq24 : ∀ (v5 : Int32) (v4 : Int32) (M : Mm), Sim cQz l layM G 5 cX10_lasts RX10 7 (some .boolean) 24 [(5, .int v5), (4, .int v4), (0, rf G 0), (1, .int v1), (3, .int v3)] [] M (q24 v5 v4 M)) (v5 : Int32) (v4 : Int32) (M : Mm) : Sim cQz l layM G 5 cX10_lasts RX10 7 (some .boolean) 24 [(5, .int v5), (4, .int v4), (0, rf G 0), (1, .int v1), (3, .int v3)] [] M (fX10_lasts_L24b v1 v3 q24 v5 v4 M) := by
  unfold fX10_lasts_L24b
  refine s_iload 0 dX10_lasts_24 rfl ?_
  refine s_iload_n 4 dX10_lasts_26 rfl rfl ?_
  refine s_icmpge (tgt := 125) dX10_lasts_27 (by decide) ?_ ?_
  · exact s_sub [1, 2] rfl (tX10_lasts_B125 l G v4 M)
  · refine s_iload 1 dX10_lasts_30 rfl ?_
    refine s_ifeq (tgt := 125) dX10_lasts_32 (by decide) ?_ ?_
    · exact s_sub [1, 2] rfl (tX10_lasts_B125 l G v4 M)
    · refine s_aload_n 2 dX10_lasts_35 rfl rfl ?_
      refine s_iload_n 3 dX10_lasts_36 rfl rfl ?_
      refine s_call_i (s_runV (ci := 10) (rest := []) rfl rfl (mX10_sees l G v1 M) ok_X10_sees k_X10_159 rfl rfl rfl rfl dX10_lasts_37) fun r7 M8 => ?_
      refine s_iconst (v := 3) dX10_lasts_40 ci_3 ?_
      refine s_icmplt (tgt := 48) dX10_lasts_41 (by decide) ?_ ?_
      · refine s_iconst (v := 0) dX10_lasts_48 ci_0 ?_
        exact s_sub [0, 2, 3, 4] rfl (tX10_lasts_B49 l G v5 v1 v3 (0 : Int32) q24 hq24 M8)
      · refine s_iconst (v := 1) dX10_lasts_44 ci_1 ?_
        refine s_goto (tgt := 49) dX10_lasts_45 (by decide) ?_
        exact s_sub [0, 2, 3, 4] rfl (tX10_lasts_B49 l G v5 v1 v3 (1 : Int32) q24 hq24 M8)
theorem tX10_lasts_L24 (l : Launch) (G : Gx) (v1 : Int32) (v3 : Int32) : ∀ (n : Nat) (v5 : Int32) (v4 : Int32) (M : Mm), Sim cQz l layM G 5 cX10_lasts RX10 7 (some .boolean) 24 [(5, .int v5), (4, .int v4), (0, rf G 0), (1, .int v1), (3, .int v3)] [] M (fX10_lasts_L24 v1 v3 n v5 v4 M)
  | 0, _, _, _ => s_none
  | n + 1, v5, v4, M => tX10_lasts_L24b l G v1 v3 _ (tX10_lasts_L24 l G v1 v3 n) v5 v4 M
def fX10_lasts (a1 : Int32) (a2 : Int32) (a3 : Int32) (M : Mm) : Option (Bool × Mm) :=
  bd (fX10_carry_1_3 M) fun r1 M2 =>
  bd (fX10_lays1 a1 (3 : Int32) a2 M2) fun r3 M4 =>
  fX10_lasts_L24 a1 a3 FU (0 : Int32) (1 : Int32) M4
theorem mX10_lasts (l : Launch) (G : Gx) (a1 : Int32) (a2 : Int32) (a3 : Int32) (M : Mm) : Mt cQz l layM G 5 yX10_lasts cX10_lasts 7 (some .boolean) [rf G 0, .int a1, .int a2, .int a3] M (fX10_lasts a1 a2 a3 M) := by
  refine Mt.of2 (own := RX10) (lv := [(0, rf G 0), (1, .int a1), (2, .int a2), (3, .int a3)]) rfl (by decide +kernel) rfl rfl ?_
  unfold fX10_lasts
  refine s_aload_n 0 dX10_lasts_0 rfl rfl ?_
  refine g_X10_7 (q := 1) rfl rfl dX10_lasts_1 ?_
  refine s_aload_n 0 dX10_lasts_4 rfl rfl ?_
  refine g_X10_16 (q := 3) rfl rfl dX10_lasts_5 ?_
  refine s_call_v (s_runS (rest := []) (mX10_carry_1_3 l G M) ok_X10_carry k_X10_194 rfl rfl rfl rfl dX10_lasts_8) fun r1 M2 => ?_
  refine s_aload_n 0 dX10_lasts_11 rfl rfl ?_
  refine s_iload_n 1 dX10_lasts_12 rfl rfl ?_
  refine s_iconst (v := 3) dX10_lasts_13 ci_3 ?_
  refine s_iload_n 2 dX10_lasts_14 rfl rfl ?_
  refine s_call_v (s_runV (ci := 10) (rest := []) rfl rfl (mX10_lays1 l G a1 (3 : Int32) a2 M2) ok_X10_lays1 k_X10_68 rfl rfl rfl rfl dX10_lasts_15) fun r3 M4 => ?_
  refine s_iconst (v := 1) dX10_lasts_18 ci_1 ?_
  refine s_istore (lv' := [(4, .int (1 : Int32)), (0, rf G 0), (1, .int a1), (2, .int a2), (3, .int a3)]) dX10_lasts_19 rfl rfl ?_
  refine s_iconst (v := 0) dX10_lasts_21 ci_0 ?_
  refine s_istore (lv' := [(5, .int (0 : Int32)), (4, .int (1 : Int32)), (0, rf G 0), (1, .int a1), (2, .int a2), (3, .int a3)]) dX10_lasts_22 rfl rfl ?_
  exact s_sub [0, 1, 2, 3, 5] rfl (tX10_lasts_L24 l G a1 a3 FU (0 : Int32) (1 : Int32) M4)
theorem dX10_needs_0 : decode cX10_needs 0 = .ok (.aload_n 0, 1) := by decide +kernel
theorem dX10_needs_1 : decode cX10_needs 1 = .ok (.iload_n 1, 1) := by decide +kernel
theorem dX10_needs_2 : decode cX10_needs 2 = .ok (.invokevirtual 162, 3) := by decide +kernel
theorem dX10_needs_5 : decode cX10_needs 5 = .ok (.ifCond .eq 13, 3) := by decide +kernel
theorem dX10_needs_8 : decode cX10_needs 8 = .ok (.iload_n 2, 1) := by decide +kernel
theorem dX10_needs_9 : decode cX10_needs 9 = .ok (.iconst 1, 1) := by decide +kernel
theorem dX10_needs_10 : decode cX10_needs 10 = .ok (.bipush 30, 2) := by decide +kernel
theorem dX10_needs_12 : decode cX10_needs 12 = .ok (.invokestatic 59, 3) := by decide +kernel
theorem dX10_needs_15 : decode cX10_needs 15 = .ok (.ifCond .ne 9, 3) := by decide +kernel
theorem dX10_needs_18 : decode cX10_needs 18 = .ok (.aload_n 0, 1) := by decide +kernel
theorem dX10_needs_19 : decode cX10_needs 19 = .ok (.iconst 1, 1) := by decide +kernel
theorem dX10_needs_20 : decode cX10_needs 20 = .ok (.invokevirtual 75, 3) := by decide +kernel
theorem dX10_needs_23 : decode cX10_needs 23 = .ok (.ireturn, 1) := by decide +kernel
theorem dX10_needs_24 : decode cX10_needs 24 = .ok (.aload_n 0, 1) := by decide +kernel
theorem dX10_needs_25 : decode cX10_needs 25 = .ok (.iload_n 1, 1) := by decide +kernel
theorem dX10_needs_26 : decode cX10_needs 26 = .ok (.iconst 5, 1) := by decide +kernel
theorem dX10_needs_27 : decode cX10_needs 27 = .ok (.invokevirtual 137, 3) := by decide +kernel
theorem dX10_needs_30 : decode cX10_needs 30 = .ok (.iconst (-1), 1) := by decide +kernel
theorem dX10_needs_31 : decode cX10_needs 31 = .ok (.if_icmp .ne 9, 3) := by decide +kernel
theorem dX10_needs_34 : decode cX10_needs 34 = .ok (.aload_n 0, 1) := by decide +kernel
theorem dX10_needs_35 : decode cX10_needs 35 = .ok (.iconst 3, 1) := by decide +kernel
theorem dX10_needs_36 : decode cX10_needs 36 = .ok (.invokevirtual 75, 3) := by decide +kernel
theorem dX10_needs_39 : decode cX10_needs 39 = .ok (.ireturn, 1) := by decide +kernel
theorem dX10_needs_40 : decode cX10_needs 40 = .ok (.iconst 0, 1) := by decide +kernel
theorem dX10_needs_41 : decode cX10_needs 41 = .ok (.istore_n 3, 1) := by decide +kernel
theorem dX10_needs_42 : decode cX10_needs 42 = .ok (.iload_n 3, 1) := by decide +kernel
theorem dX10_needs_43 : decode cX10_needs 43 = .ok (.sipush 999, 3) := by decide +kernel
theorem dX10_needs_46 : decode cX10_needs 46 = .ok (.if_icmp .gt 19, 3) := by decide +kernel
theorem dX10_needs_49 : decode cX10_needs 49 = .ok (.aload_n 0, 1) := by decide +kernel
theorem dX10_needs_50 : decode cX10_needs 50 = .ok (.iload_n 1, 1) := by decide +kernel
theorem dX10_needs_51 : decode cX10_needs 51 = .ok (.iload_n 3, 1) := by decide +kernel
theorem dX10_needs_52 : decode cX10_needs 52 = .ok (.iload_n 2, 1) := by decide +kernel
theorem dX10_needs_53 : decode cX10_needs 53 = .ok (.invokevirtual 219, 3) := by decide +kernel
theorem dX10_needs_56 : decode cX10_needs 56 = .ok (.ifCond .ne 9, 3) := by decide +kernel
theorem dX10_needs_59 : decode cX10_needs 59 = .ok (.iinc 3 1, 3) := by decide +kernel
theorem dX10_needs_62 : decode cX10_needs 62 = .ok (.goto (-20), 3) := by decide +kernel
theorem dX10_needs_65 : decode cX10_needs 65 = .ok (.iload_n 3, 1) := by decide +kernel
theorem dX10_needs_66 : decode cX10_needs 66 = .ok (.sipush 999, 3) := by decide +kernel
theorem dX10_needs_69 : decode cX10_needs 69 = .ok (.if_icmp .gt 7, 3) := by decide +kernel
theorem dX10_needs_72 : decode cX10_needs 72 = .ok (.iload_n 3, 1) := by decide +kernel
theorem dX10_needs_73 : decode cX10_needs 73 = .ok (.goto 8, 3) := by decide +kernel
theorem dX10_needs_76 : decode cX10_needs 76 = .ok (.aload_n 0, 1) := by decide +kernel
theorem dX10_needs_77 : decode cX10_needs 77 = .ok (.iconst 2, 1) := by decide +kernel
theorem dX10_needs_78 : decode cX10_needs 78 = .ok (.invokevirtual 75, 3) := by decide +kernel
theorem dX10_needs_81 : decode cX10_needs 81 = .ok (.ireturn, 1) := by decide +kernel
def fX10_needs_B18 (M : Mm) : Option (Int32 × Mm) :=
  bd (fX10_error (1 : Int32) M) fun r5 M6 =>
  some (r5, M6)
theorem tX10_needs_B18 (l : Launch) (G : Gx) (M : Mm) : Sim cQi l layM G 6 cX10_needs RX10 4 (some .int) 18 [(0, rf G 0)] [] M (fX10_needs_B18 M) := by
  unfold fX10_needs_B18
  refine s_aload_n 0 dX10_needs_18 rfl rfl ?_
  refine s_iconst (v := 1) dX10_needs_19 ci_1 ?_
  refine s_call_i (s_runV (ci := 10) (rest := []) rfl rfl (mX10_error l G (1 : Int32) M) ok_X10_error k_X10_75 rfl rfl rfl rfl dX10_needs_20) fun r5 M6 => ?_
  exact s_iret rfl dX10_needs_23
def fX10_needs_B81 (w0 : Int32) (M : Mm) : Option (Int32 × Mm) :=
  some (w0, M)
theorem tX10_needs_B81 (l : Launch) (G : Gx) (w0 : Int32) (M : Mm) : Sim cQi l layM G 6 cX10_needs RX10 4 (some .int) 81 [] [.int w0] M (fX10_needs_B81 w0 M) := by
  unfold fX10_needs_B81
  exact s_iret rfl dX10_needs_81
def fX10_needs_B65 (v3 : Int32) (M : Mm) : Option (Int32 × Mm) :=
  if (999 : Int32) < v3 then (bd (fX10_error (2 : Int32) M) fun r9 M10 =>
  fX10_needs_B81 r9 M10)
  else fX10_needs_B81 v3 M
theorem tX10_needs_B65 (l : Launch) (G : Gx) (v3 : Int32) (M : Mm) : Sim cQi l layM G 6 cX10_needs RX10 4 (some .int) 65 [(3, .int v3), (0, rf G 0)] [] M (fX10_needs_B65 v3 M) := by
  unfold fX10_needs_B65
  refine s_iload_n 0 dX10_needs_65 rfl rfl ?_
  refine s_sipush (v := 999) dX10_needs_66 cs_999 ?_
  refine s_icmpgt (tgt := 76) dX10_needs_69 (by decide) ?_ ?_
  · refine s_aload_n 1 dX10_needs_76 rfl rfl ?_
    refine s_iconst (v := 2) dX10_needs_77 ci_2 ?_
    refine s_call_i (s_runV (ci := 10) (rest := []) rfl rfl (mX10_error l G (2 : Int32) M) ok_X10_error k_X10_75 rfl rfl rfl rfl dX10_needs_78) fun r9 M10 => ?_
    exact s_sub [] rfl (tX10_needs_B81 l G r9 M10)
  · refine s_iload_n 0 dX10_needs_72 rfl rfl ?_
    refine s_goto (tgt := 81) dX10_needs_73 (by decide) ?_
    exact s_sub [] rfl (tX10_needs_B81 l G v3 M)
def fX10_needs_L42b (v1 : Int32) (v2 : Int32) (q42 : Int32 → Mm → Option (Int32 × Mm)) (v3 : Int32) (M : Mm) : Option (Int32 × Mm) :=
  if (999 : Int32) < v3 then (fX10_needs_B65 v3 M)
  else bd (fX10_lasts v1 v3 v2 M) fun r11 M12 =>
  if r11 = true then (fX10_needs_B65 v3 M12)
  else q42 (v3 + 1) M12
def fX10_needs_L42 (v1 : Int32) (v2 : Int32) : Nat → Int32 → Mm → Option (Int32 × Mm)
  | 0 => fun _ _ => none
  | n + 1 => fX10_needs_L42b v1 v2 (fX10_needs_L42 v1 v2 n)
theorem tX10_needs_L42b (l : Launch) (G : Gx) (v1 : Int32) (v2 : Int32) (q42 : Int32 → Mm → Option (Int32 × Mm)) (hq42 : ∀ (v3 : Int32) (M : Mm), Sim cQi l layM G 6 cX10_needs RX10 4 (some .int) 42 [(3, .int v3), (0, rf G 0), (1, .int v1), (2, .int v2)] [] M (q42 v3 M)) (v3 : Int32) (M : Mm) : Sim cQi l layM G 6 cX10_needs RX10 4 (some .int) 42 [(3, .int v3), (0, rf G 0), (1, .int v1), (2, .int v2)] [] M (fX10_needs_L42b v1 v2 q42 v3 M) := by
  unfold fX10_needs_L42b
  refine s_iload_n 0 dX10_needs_42 rfl rfl ?_
  refine s_sipush (v := 999) dX10_needs_43 cs_999 ?_
  refine s_icmpgt (tgt := 65) dX10_needs_46 (by decide) ?_ ?_
  · exact s_sub [0, 1] rfl (tX10_needs_B65 l G v3 M)
  · refine s_aload_n 1 dX10_needs_49 rfl rfl ?_
    refine s_iload_n 2 dX10_needs_50 rfl rfl ?_
    refine s_iload_n 0 dX10_needs_51 rfl rfl ?_
    refine s_iload_n 3 dX10_needs_52 rfl rfl ?_
    refine s_call_z (s_runV (ci := 10) (rest := []) rfl rfl (mX10_lasts l G v1 v3 v2 M) ok_X10_lasts k_X10_219 rfl rfl rfl rfl dX10_needs_53) fun r11 M12 => ?_
    refine s_ifneB (tgt := 65) dX10_needs_56 (by decide) ?_ ?_
    · exact s_sub [0, 1] rfl (tX10_needs_B65 l G v3 M12)
    · refine s_iinc (k := 0) (lv' := [(3, .int (v3 + 1)), (0, rf G 0), (1, .int v1), (2, .int v2)]) dX10_needs_59 rfl ci_1 rfl rfl ?_
      refine s_goto (tgt := 42) dX10_needs_62 (by decide) ?_
      exact s_sub [0, 1, 2, 3] rfl (hq42 (v3 + 1) M12)
theorem tX10_needs_L42 (l : Launch) (G : Gx) (v1 : Int32) (v2 : Int32) : ∀ (n : Nat) (v3 : Int32) (M : Mm), Sim cQi l layM G 6 cX10_needs RX10 4 (some .int) 42 [(3, .int v3), (0, rf G 0), (1, .int v1), (2, .int v2)] [] M (fX10_needs_L42 v1 v2 n v3 M)
  | 0, _, _ => s_none
  | n + 1, v3, M => tX10_needs_L42b l G v1 v2 _ (tX10_needs_L42 l G v1 v2 n) v3 M
def fX10_needs (a1 : Int32) (a2 : Int32) (M : Mm) : Option (Int32 × Mm) :=
  bd (fX10_isLetter a1 M) fun r1 M2 =>
  if r1 = true then (bd (fX10_in a2 (1 : Int32) (30 : Int32) M2) fun r3 M4 =>
  if r3 = true then (bd (fX10_its a1 (5 : Int32) M4) fun r7 M8 =>
  if r7 = (-1 : Int32) then (bd (fX10_error (3 : Int32) M8) fun r13 M14 =>
  some (r13, M14))
  else fX10_needs_L42 a1 a2 FU (0 : Int32) M8)
  else fX10_needs_B18 M4)
  else fX10_needs_B18 M2
theorem mX10_needs (l : Launch) (G : Gx) (a1 : Int32) (a2 : Int32) (M : Mm) : Mt cQi l layM G 6 yX10_needs cX10_needs 4 (some .int) [rf G 0, .int a1, .int a2] M (fX10_needs a1 a2 M) := by
  refine Mt.of2 (own := RX10) (lv := [(0, rf G 0), (1, .int a1), (2, .int a2)]) rfl (by decide +kernel) rfl rfl ?_
  unfold fX10_needs
  refine s_aload_n 0 dX10_needs_0 rfl rfl ?_
  refine s_iload_n 1 dX10_needs_1 rfl rfl ?_
  refine s_call_z (s_runV (ci := 10) (rest := []) rfl rfl (mX10_isLetter l G a1 M) ok_X10_isLetter k_X10_162 rfl rfl rfl rfl dX10_needs_2) fun r1 M2 => ?_
  refine s_ifeqB (tgt := 18) dX10_needs_5 (by decide) ?_ ?_
  · exact s_sub [0] rfl (tX10_needs_B18 l G M2)
  · refine s_iload_n 2 dX10_needs_8 rfl rfl ?_
    refine s_iconst (v := 1) dX10_needs_9 ci_1 ?_
    refine s_bipush (v := 30) dX10_needs_10 cb_30 ?_
    refine s_call_z (s_runS (rest := []) (mX10_in l G a2 (1 : Int32) (30 : Int32) M2) ok_X10_in k_X10_59 rfl rfl rfl rfl dX10_needs_12) fun r3 M4 => ?_
    refine s_ifneB (tgt := 24) dX10_needs_15 (by decide) ?_ ?_
    · refine s_aload_n 0 dX10_needs_24 rfl rfl ?_
      refine s_iload_n 1 dX10_needs_25 rfl rfl ?_
      refine s_iconst (v := 5) dX10_needs_26 ci_5 ?_
      refine s_call_i (s_runV (ci := 10) (rest := []) rfl rfl (mX10_its l G a1 (5 : Int32) M4) ok_X10_its k_X10_137 rfl rfl rfl rfl dX10_needs_27) fun r7 M8 => ?_
      refine s_iconst (v := -1) dX10_needs_30 ci_m1 ?_
      refine s_icmpne (tgt := 40) dX10_needs_31 (by decide) ?_ ?_
      · refine s_iconst (v := 0) dX10_needs_40 ci_0 ?_
        refine s_istore_n (lv' := [(3, .int (0 : Int32)), (0, rf G 0), (1, .int a1), (2, .int a2)]) dX10_needs_41 rfl rfl rfl ?_
        exact s_sub [0, 1, 2, 3] rfl (tX10_needs_L42 l G a1 a2 FU (0 : Int32) M8)
      · refine s_aload_n 0 dX10_needs_34 rfl rfl ?_
        refine s_iconst (v := 3) dX10_needs_35 ci_3 ?_
        refine s_call_i (s_runV (ci := 10) (rest := []) rfl rfl (mX10_error l G (3 : Int32) M8) ok_X10_error k_X10_75 rfl rfl rfl rfl dX10_needs_36) fun r13 M14 => ?_
        exact s_iret rfl dX10_needs_39
    · exact s_sub [0] rfl (tX10_needs_B18 l G M4)
theorem dX10_maySay_0 : decode cX10_maySay 0 = .ok (.sipush 220, 3) := by decide +kernel
theorem dX10_maySay_3 : decode cX10_maySay 3 = .ok (.bipush 9, 2) := by decide +kernel
theorem dX10_maySay_5 : decode cX10_maySay 5 = .ok (.iload_n 2, 1) := by decide +kernel
theorem dX10_maySay_6 : decode cX10_maySay 6 = .ok (.imul, 1) := by decide +kernel
theorem dX10_maySay_7 : decode cX10_maySay 7 = .ok (.iadd, 1) := by decide +kernel
theorem dX10_maySay_8 : decode cX10_maySay 8 = .ok (.istore_n 3, 1) := by decide +kernel
theorem dX10_maySay_9 : decode cX10_maySay 9 = .ok (.aload_n 0, 1) := by decide +kernel
theorem dX10_maySay_10 : decode cX10_maySay 10 = .ok (.getfield 7, 3) := by decide +kernel
theorem dX10_maySay_13 : decode cX10_maySay 13 = .ok (.iload_n 3, 1) := by decide +kernel
theorem dX10_maySay_14 : decode cX10_maySay 14 = .ok (.iaload, 1) := by decide +kernel
theorem dX10_maySay_15 : decode cX10_maySay 15 = .ok (.aload_n 0, 1) := by decide +kernel
theorem dX10_maySay_16 : decode cX10_maySay 16 = .ok (.iload_n 1, 1) := by decide +kernel
theorem dX10_maySay_17 : decode cX10_maySay 17 = .ok (.iconst 0, 1) := by decide +kernel
theorem dX10_maySay_18 : decode cX10_maySay 18 = .ok (.invokevirtual 153, 3) := by decide +kernel
theorem dX10_maySay_21 : decode cX10_maySay 21 = .ok (.if_icmp .ne 7, 3) := by decide +kernel
theorem dX10_maySay_24 : decode cX10_maySay 24 = .ok (.iconst 1, 1) := by decide +kernel
theorem dX10_maySay_25 : decode cX10_maySay 25 = .ok (.goto 4, 3) := by decide +kernel
theorem dX10_maySay_28 : decode cX10_maySay 28 = .ok (.iconst 0, 1) := by decide +kernel
theorem dX10_maySay_29 : decode cX10_maySay 29 = .ok (.istore 4, 2) := by decide +kernel
theorem dX10_maySay_31 : decode cX10_maySay 31 = .ok (.iconst 0, 1) := by decide +kernel
theorem dX10_maySay_32 : decode cX10_maySay 32 = .ok (.istore 5, 2) := by decide +kernel
theorem dX10_maySay_34 : decode cX10_maySay 34 = .ok (.iload 5, 2) := by decide +kernel
theorem dX10_maySay_36 : decode cX10_maySay 36 = .ok (.aload_n 0, 1) := by decide +kernel
theorem dX10_maySay_37 : decode cX10_maySay 37 = .ok (.iload_n 1, 1) := by decide +kernel
theorem dX10_maySay_38 : decode cX10_maySay 38 = .ok (.iconst 0, 1) := by decide +kernel
theorem dX10_maySay_39 : decode cX10_maySay 39 = .ok (.invokevirtual 153, 3) := by decide +kernel
theorem dX10_maySay_42 : decode cX10_maySay 42 = .ok (.if_icmp .ge 62, 3) := by decide +kernel
theorem dX10_maySay_45 : decode cX10_maySay 45 = .ok (.iload 4, 2) := by decide +kernel
theorem dX10_maySay_47 : decode cX10_maySay 47 = .ok (.ifCond .eq 57, 3) := by decide +kernel
theorem dX10_maySay_50 : decode cX10_maySay 50 = .ok (.aload_n 0, 1) := by decide +kernel
theorem dX10_maySay_51 : decode cX10_maySay 51 = .ok (.iload_n 1, 1) := by decide +kernel
theorem dX10_maySay_52 : decode cX10_maySay 52 = .ok (.iconst 2, 1) := by decide +kernel
theorem dX10_maySay_53 : decode cX10_maySay 53 = .ok (.iload 5, 2) := by decide +kernel
theorem dX10_maySay_55 : decode cX10_maySay 55 = .ok (.iadd, 1) := by decide +kernel
theorem dX10_maySay_56 : decode cX10_maySay 56 = .ok (.invokevirtual 153, 3) := by decide +kernel
theorem dX10_maySay_59 : decode cX10_maySay 59 = .ok (.istore 6, 2) := by decide +kernel
theorem dX10_maySay_61 : decode cX10_maySay 61 = .ok (.aload_n 0, 1) := by decide +kernel
theorem dX10_maySay_62 : decode cX10_maySay 62 = .ok (.iload 6, 2) := by decide +kernel
theorem dX10_maySay_64 : decode cX10_maySay 64 = .ok (.invokevirtual 159, 3) := by decide +kernel
theorem dX10_maySay_67 : decode cX10_maySay 67 = .ok (.ifCond .eq 24, 3) := by decide +kernel
theorem dX10_maySay_70 : decode cX10_maySay 70 = .ok (.aload_n 0, 1) := by decide +kernel
theorem dX10_maySay_71 : decode cX10_maySay 71 = .ok (.iload 6, 2) := by decide +kernel
theorem dX10_maySay_73 : decode cX10_maySay 73 = .ok (.iconst 2, 1) := by decide +kernel
theorem dX10_maySay_74 : decode cX10_maySay 74 = .ok (.invokevirtual 137, 3) := by decide +kernel
theorem dX10_maySay_77 : decode cX10_maySay 77 = .ok (.aload_n 0, 1) := by decide +kernel
theorem dX10_maySay_78 : decode cX10_maySay 78 = .ok (.getfield 7, 3) := by decide +kernel
theorem dX10_maySay_81 : decode cX10_maySay 81 = .ok (.iload_n 3, 1) := by decide +kernel
theorem dX10_maySay_82 : decode cX10_maySay 82 = .ok (.iconst 1, 1) := by decide +kernel
theorem dX10_maySay_83 : decode cX10_maySay 83 = .ok (.iadd, 1) := by decide +kernel
theorem dX10_maySay_84 : decode cX10_maySay 84 = .ok (.iload 5, 2) := by decide +kernel
theorem dX10_maySay_86 : decode cX10_maySay 86 = .ok (.iadd, 1) := by decide +kernel
theorem dX10_maySay_87 : decode cX10_maySay 87 = .ok (.iaload, 1) := by decide +kernel
theorem dX10_maySay_88 : decode cX10_maySay 88 = .ok (.if_icmp .ne 7, 3) := by decide +kernel
theorem dX10_maySay_91 : decode cX10_maySay 91 = .ok (.iconst 1, 1) := by decide +kernel
theorem dX10_maySay_92 : decode cX10_maySay 92 = .ok (.goto 4, 3) := by decide +kernel
theorem dX10_maySay_95 : decode cX10_maySay 95 = .ok (.iconst 0, 1) := by decide +kernel
theorem dX10_maySay_96 : decode cX10_maySay 96 = .ok (.istore 4, 2) := by decide +kernel
theorem dX10_maySay_98 : decode cX10_maySay 98 = .ok (.iinc 5 1, 3) := by decide +kernel
theorem dX10_maySay_101 : decode cX10_maySay 101 = .ok (.goto (-67), 3) := by decide +kernel
theorem dX10_maySay_104 : decode cX10_maySay 104 = .ok (.iload 4, 2) := by decide +kernel
theorem dX10_maySay_106 : decode cX10_maySay 106 = .ok (.ireturn, 1) := by decide +kernel
def fX10_maySay_B104 (v4 : Int32) (M : Mm) : Option (Bool × Mm) :=
  gd (isb v4) (some (decide (v4 = 1), M))
theorem tX10_maySay_B104 (l : Launch) (G : Gx) (v4 : Int32) (M : Mm) : Sim cQz l layM G 4 cX10_maySay RX10 7 (some .boolean) 104 [(4, .int v4)] [] M (fX10_maySay_B104 v4 M) := by
  unfold fX10_maySay_B104
  refine s_iload 0 dX10_maySay_104 rfl ?_
  exact s_zretI rfl dX10_maySay_106
def fX10_maySay_B96 (q34 : Int32 → Int32 → Mm → Option (Bool × Mm)) (v5 : Int32) (v3 : Int32) (v1 : Int32) (w0 : Int32) (M : Mm) : Option (Bool × Mm) :=
  q34 (v5 + 1) w0 M
theorem tX10_maySay_B96 (l : Launch) (G : Gx) (v5 : Int32) (v3 : Int32) (v1 : Int32) (w0 : Int32) (q34 : Int32 → Int32 → Mm → Option (Bool × Mm)) (hq34 : ∀ (v5 : Int32) (v4 : Int32) (M : Mm), Sim cQz l layM G 4 cX10_maySay RX10 7 (some .boolean) 34 [(5, .int v5), (4, .int v4), (3, .int v3), (0, rf G 0), (1, .int v1)] [] M (q34 v5 v4 M)) (M : Mm) : Sim cQz l layM G 4 cX10_maySay RX10 7 (some .boolean) 96 [(5, .int v5), (3, .int v3), (0, rf G 0), (1, .int v1)] [.int w0] M (fX10_maySay_B96 q34 v5 v3 v1 w0 M) := by
  unfold fX10_maySay_B96
  refine s_istore (lv' := [(4, .int w0), (5, .int v5), (3, .int v3), (0, rf G 0), (1, .int v1)]) dX10_maySay_96 rfl rfl ?_
  refine s_iinc (k := 1) (lv' := [(5, .int (v5 + 1)), (4, .int w0), (3, .int v3), (0, rf G 0), (1, .int v1)]) dX10_maySay_98 rfl ci_1 rfl rfl ?_
  refine s_goto (tgt := 34) dX10_maySay_101 (by decide) ?_
  exact s_sub [0, 1, 2, 3, 4] rfl (hq34 (v5 + 1) w0 M)
def fX10_maySay_B91 (q34 : Int32 → Int32 → Mm → Option (Bool × Mm)) (v5 : Int32) (v3 : Int32) (v1 : Int32) (M : Mm) : Option (Bool × Mm) :=
  fX10_maySay_B96 q34 v5 v3 v1 (1 : Int32) M
theorem tX10_maySay_B91 (l : Launch) (G : Gx) (v5 : Int32) (v3 : Int32) (v1 : Int32) (q34 : Int32 → Int32 → Mm → Option (Bool × Mm)) (hq34 : ∀ (v5 : Int32) (v4 : Int32) (M : Mm), Sim cQz l layM G 4 cX10_maySay RX10 7 (some .boolean) 34 [(5, .int v5), (4, .int v4), (3, .int v3), (0, rf G 0), (1, .int v1)] [] M (q34 v5 v4 M)) (M : Mm) : Sim cQz l layM G 4 cX10_maySay RX10 7 (some .boolean) 91 [(5, .int v5), (3, .int v3), (0, rf G 0), (1, .int v1)] [] M (fX10_maySay_B91 q34 v5 v3 v1 M) := by
  unfold fX10_maySay_B91
  refine s_iconst (v := 1) dX10_maySay_91 ci_1 ?_
  refine s_goto (tgt := 96) dX10_maySay_92 (by decide) ?_
  exact s_sub [0, 1, 2, 3] rfl (tX10_maySay_B96 l G v5 v3 v1 (1 : Int32) q34 hq34 M)
def fX10_maySay_L34b (v3 : Int32) (v1 : Int32) (q34 : Int32 → Int32 → Mm → Option (Bool × Mm)) (v5 : Int32) (v4 : Int32) (M : Mm) : Option (Bool × Mm) :=
  bd (fX10_of v1 (0 : Int32) M) fun r5 M6 =>
  if r5 ≤ v5 then (fX10_maySay_B104 v4 M6)
  else if v4 = 0 then (fX10_maySay_B104 v4 M6)
  else bd (fX10_of v1 ((2 : Int32) + v5) M6) fun r7 M8 =>
  bd (fX10_sees r7 M8) fun r9 M10 =>
  if r9 = 0 then (fX10_maySay_B91 q34 v5 v3 v1 M10)
  else bd (fX10_its r7 (2 : Int32) M10) fun r11 M12 =>
  gd (inb ((v3 + (1 : Int32)) + v5) 626) <|
  if r11 = (M12 1 (ix ((v3 + (1 : Int32)) + v5))) then (fX10_maySay_B91 q34 v5 v3 v1 M12)
  else fX10_maySay_B96 q34 v5 v3 v1 (0 : Int32) M12
def fX10_maySay_L34 (v3 : Int32) (v1 : Int32) : Nat → Int32 → Int32 → Mm → Option (Bool × Mm)
  | 0 => fun _ _ _ => none
  | n + 1 => fX10_maySay_L34b v3 v1 (fX10_maySay_L34 v3 v1 n)
theorem tX10_maySay_L34b (l : Launch) (G : Gx) (v3 : Int32) (v1 : Int32) (q34 : Int32 → Int32 → Mm → Option (Bool × Mm)) (hq34 : ∀ (v5 : Int32) (v4 : Int32) (M : Mm), Sim cQz l layM G 4 cX10_maySay RX10 7 (some .boolean) 34 [(5, .int v5), (4, .int v4), (3, .int v3), (0, rf G 0), (1, .int v1)] [] M (q34 v5 v4 M)) (v5 : Int32) (v4 : Int32) (M : Mm) : Sim cQz l layM G 4 cX10_maySay RX10 7 (some .boolean) 34 [(5, .int v5), (4, .int v4), (3, .int v3), (0, rf G 0), (1, .int v1)] [] M (fX10_maySay_L34b v3 v1 q34 v5 v4 M) := by
  unfold fX10_maySay_L34b
  refine s_iload 0 dX10_maySay_34 rfl ?_
  refine s_aload_n 3 dX10_maySay_36 rfl rfl ?_
  refine s_iload_n 4 dX10_maySay_37 rfl rfl ?_
  refine s_iconst (v := 0) dX10_maySay_38 ci_0 ?_
  refine s_call_i (s_runV (ci := 10) (rest := [.int v5]) rfl rfl (mX10_of l G v1 (0 : Int32) M) ok_X10_of k_X10_153 rfl rfl rfl rfl dX10_maySay_39) fun r5 M6 => ?_
  refine s_icmpge (tgt := 104) dX10_maySay_42 (by decide) ?_ ?_
  · exact s_sub [1] rfl (tX10_maySay_B104 l G v4 M6)
  · refine s_iload 1 dX10_maySay_45 rfl ?_
    refine s_ifeq (tgt := 104) dX10_maySay_47 (by decide) ?_ ?_
    · exact s_sub [1] rfl (tX10_maySay_B104 l G v4 M6)
    · refine s_aload_n 3 dX10_maySay_50 rfl rfl ?_
      refine s_iload_n 4 dX10_maySay_51 rfl rfl ?_
      refine s_iconst (v := 2) dX10_maySay_52 ci_2 ?_
      refine s_iload 0 dX10_maySay_53 rfl ?_
      refine s_iadd dX10_maySay_55 ?_
      refine s_call_i (s_runV (ci := 10) (rest := []) rfl rfl (mX10_of l G v1 ((2 : Int32) + v5) M6) ok_X10_of k_X10_153 rfl rfl rfl rfl dX10_maySay_56) fun r7 M8 => ?_
      refine s_istore (lv' := [(6, .int r7), (5, .int v5), (4, .int v4), (3, .int v3), (0, rf G 0), (1, .int v1)]) dX10_maySay_59 rfl rfl ?_
      refine s_aload_n 4 dX10_maySay_61 rfl rfl ?_
      refine s_iload 0 dX10_maySay_62 rfl ?_
      refine s_call_i (s_runV (ci := 10) (rest := []) rfl rfl (mX10_sees l G r7 M8) ok_X10_sees k_X10_159 rfl rfl rfl rfl dX10_maySay_64) fun r9 M10 => ?_
      refine s_ifeq (tgt := 91) dX10_maySay_67 (by decide) ?_ ?_
      · exact s_sub [1, 3, 4, 5] rfl (tX10_maySay_B91 l G v5 v3 v1 q34 hq34 M10)
      · refine s_aload_n 4 dX10_maySay_70 rfl rfl ?_
        refine s_iload 0 dX10_maySay_71 rfl ?_
        refine s_iconst (v := 2) dX10_maySay_73 ci_2 ?_
        refine s_call_i (s_runV (ci := 10) (rest := []) rfl rfl (mX10_its l G r7 (2 : Int32) M10) ok_X10_its k_X10_137 rfl rfl rfl rfl dX10_maySay_74) fun r11 M12 => ?_
        refine s_aload_n 4 dX10_maySay_77 rfl rfl ?_
        refine g_X10_7 (q := 1) rfl rfl dX10_maySay_78 ?_
        refine s_iload_n 3 dX10_maySay_81 rfl rfl ?_
        refine s_iconst (v := 1) dX10_maySay_82 ci_1 ?_
        refine s_iadd dX10_maySay_83 ?_
        refine s_iload 1 dX10_maySay_84 rfl ?_
        refine s_iadd dX10_maySay_86 ?_
        refine s_gd fun h13 => ?_
        refine s_iald (n := 626) rfl h13 dX10_maySay_87 ?_
        refine s_icmpne (tgt := 95) dX10_maySay_88 (by decide) ?_ ?_
        · refine s_iconst (v := 0) dX10_maySay_95 ci_0 ?_
          exact s_sub [1, 3, 4, 5] rfl (tX10_maySay_B96 l G v5 v3 v1 (0 : Int32) q34 hq34 M12)
        · exact s_sub [1, 3, 4, 5] rfl (tX10_maySay_B91 l G v5 v3 v1 q34 hq34 M12)
theorem tX10_maySay_L34 (l : Launch) (G : Gx) (v3 : Int32) (v1 : Int32) : ∀ (n : Nat) (v5 : Int32) (v4 : Int32) (M : Mm), Sim cQz l layM G 4 cX10_maySay RX10 7 (some .boolean) 34 [(5, .int v5), (4, .int v4), (3, .int v3), (0, rf G 0), (1, .int v1)] [] M (fX10_maySay_L34 v3 v1 n v5 v4 M)
  | 0, _, _, _ => s_none
  | n + 1, v5, v4, M => tX10_maySay_L34b l G v3 v1 _ (tX10_maySay_L34 l G v3 v1 n) v5 v4 M
def fX10_maySay_B29 (v3 : Int32) (v1 : Int32) (w0 : Int32) (M : Mm) : Option (Bool × Mm) :=
  fX10_maySay_L34 v3 v1 FU (0 : Int32) w0 M
theorem tX10_maySay_B29 (l : Launch) (G : Gx) (v3 : Int32) (v1 : Int32) (w0 : Int32) (M : Mm) : Sim cQz l layM G 4 cX10_maySay RX10 7 (some .boolean) 29 [(3, .int v3), (0, rf G 0), (1, .int v1)] [.int w0] M (fX10_maySay_B29 v3 v1 w0 M) := by
  unfold fX10_maySay_B29
  refine s_istore (lv' := [(4, .int w0), (3, .int v3), (0, rf G 0), (1, .int v1)]) dX10_maySay_29 rfl rfl ?_
  refine s_iconst (v := 0) dX10_maySay_31 ci_0 ?_
  refine s_istore (lv' := [(5, .int (0 : Int32)), (4, .int w0), (3, .int v3), (0, rf G 0), (1, .int v1)]) dX10_maySay_32 rfl rfl ?_
  exact s_sub [0, 1, 2, 3, 4] rfl (tX10_maySay_L34 l G v3 v1 FU (0 : Int32) w0 M)
def fX10_maySay (a1 : Int32) (a2 : Int32) (M : Mm) : Option (Bool × Mm) :=
  lt ((220 : Int32) + ((9 : Int32) * a2)) fun x1 =>
  gd (inb x1 626) <|
  bd (fX10_of a1 (0 : Int32) M) fun r3 M4 =>
  if (M 1 (ix x1)) = r3 then (fX10_maySay_B29 x1 a1 (1 : Int32) M4)
  else fX10_maySay_B29 x1 a1 (0 : Int32) M4
theorem mX10_maySay (l : Launch) (G : Gx) (a1 : Int32) (a2 : Int32) (M : Mm) : Mt cQz l layM G 4 yX10_maySay cX10_maySay 7 (some .boolean) [rf G 0, .int a1, .int a2] M (fX10_maySay a1 a2 M) := by
  refine Mt.of2 (own := RX10) (lv := [(0, rf G 0), (1, .int a1), (2, .int a2)]) rfl (by decide +kernel) rfl rfl ?_
  unfold fX10_maySay
  refine s_sipush (v := 220) dX10_maySay_0 cs_220 ?_
  refine s_bipush (v := 9) dX10_maySay_3 cb_9 ?_
  refine s_iload_n 2 dX10_maySay_5 rfl rfl ?_
  refine s_imul dX10_maySay_6 ?_
  refine s_iadd dX10_maySay_7 ?_
  refine s_leti fun x1 => ?_
  refine s_istore_n (lv' := [(3, .int x1), (0, rf G 0), (1, .int a1), (2, .int a2)]) dX10_maySay_8 rfl rfl rfl ?_
  refine s_aload_n 1 dX10_maySay_9 rfl rfl ?_
  refine g_X10_7 (q := 1) rfl rfl dX10_maySay_10 ?_
  refine s_iload_n 0 dX10_maySay_13 rfl rfl ?_
  refine s_gd fun h2 => ?_
  refine s_iald (n := 626) rfl h2 dX10_maySay_14 ?_
  refine s_aload_n 1 dX10_maySay_15 rfl rfl ?_
  refine s_iload_n 2 dX10_maySay_16 rfl rfl ?_
  refine s_iconst (v := 0) dX10_maySay_17 ci_0 ?_
  refine s_call_i (s_runV (ci := 10) (rest := [.int (M 1 (ix x1))]) rfl rfl (mX10_of l G a1 (0 : Int32) M) ok_X10_of k_X10_153 rfl rfl rfl rfl dX10_maySay_18) fun r3 M4 => ?_
  refine s_icmpne (tgt := 28) dX10_maySay_21 (by decide) ?_ ?_
  · refine s_iconst (v := 0) dX10_maySay_28 ci_0 ?_
    exact s_sub [0, 1, 2] rfl (tX10_maySay_B29 l G x1 a1 (0 : Int32) M4)
  · refine s_iconst (v := 1) dX10_maySay_24 ci_1 ?_
    refine s_goto (tgt := 29) dX10_maySay_25 (by decide) ?_
    exact s_sub [0, 1, 2] rfl (tX10_maySay_B29 l G x1 a1 (1 : Int32) M4)
theorem dX10_said_0 : decode cX10_said 0 = .ok (.iload_n 1, 1) := by decide +kernel
theorem dX10_said_1 : decode cX10_said 1 = .ok (.invokestatic 182, 3) := by decide +kernel
theorem dX10_said_4 : decode cX10_said 4 = .ok (.ifCond .ne 9, 3) := by decide +kernel
theorem dX10_said_7 : decode cX10_said 7 = .ok (.aload_n 0, 1) := by decide +kernel
theorem dX10_said_8 : decode cX10_said 8 = .ok (.iconst 1, 1) := by decide +kernel
theorem dX10_said_9 : decode cX10_said 9 = .ok (.invokevirtual 75, 3) := by decide +kernel
theorem dX10_said_12 : decode cX10_said 12 = .ok (.ireturn, 1) := by decide +kernel
theorem dX10_said_13 : decode cX10_said 13 = .ok (.iconst 0, 1) := by decide +kernel
theorem dX10_said_14 : decode cX10_said 14 = .ok (.istore_n 2, 1) := by decide +kernel
theorem dX10_said_15 : decode cX10_said 15 = .ok (.iconst 0, 1) := by decide +kernel
theorem dX10_said_16 : decode cX10_said 16 = .ok (.istore_n 3, 1) := by decide +kernel
theorem dX10_said_17 : decode cX10_said 17 = .ok (.iload_n 3, 1) := by decide +kernel
theorem dX10_said_18 : decode cX10_said 18 = .ok (.aload_n 0, 1) := by decide +kernel
theorem dX10_said_19 : decode cX10_said 19 = .ok (.getfield 7, 3) := by decide +kernel
theorem dX10_said_22 : decode cX10_said 22 = .ok (.iconst 1, 1) := by decide +kernel
theorem dX10_said_23 : decode cX10_said 23 = .ok (.iaload, 1) := by decide +kernel
theorem dX10_said_24 : decode cX10_said 24 = .ok (.if_icmp .ge 28, 3) := by decide +kernel
theorem dX10_said_27 : decode cX10_said 27 = .ok (.iload_n 2, 1) := by decide +kernel
theorem dX10_said_28 : decode cX10_said 28 = .ok (.aload_n 0, 1) := by decide +kernel
theorem dX10_said_29 : decode cX10_said 29 = .ok (.iload_n 1, 1) := by decide +kernel
theorem dX10_said_30 : decode cX10_said 30 = .ok (.iload_n 3, 1) := by decide +kernel
theorem dX10_said_31 : decode cX10_said 31 = .ok (.invokevirtual 222, 3) := by decide +kernel
theorem dX10_said_34 : decode cX10_said 34 = .ok (.ifCond .eq 9, 3) := by decide +kernel
theorem dX10_said_37 : decode cX10_said 37 = .ok (.iconst 1, 1) := by decide +kernel
theorem dX10_said_38 : decode cX10_said 38 = .ok (.iload_n 3, 1) := by decide +kernel
theorem dX10_said_39 : decode cX10_said 39 = .ok (.ishl, 1) := by decide +kernel
theorem dX10_said_40 : decode cX10_said 40 = .ok (.goto 4, 3) := by decide +kernel
theorem dX10_said_43 : decode cX10_said 43 = .ok (.iconst 0, 1) := by decide +kernel
theorem dX10_said_44 : decode cX10_said 44 = .ok (.ior, 1) := by decide +kernel
theorem dX10_said_45 : decode cX10_said 45 = .ok (.istore_n 2, 1) := by decide +kernel
theorem dX10_said_46 : decode cX10_said 46 = .ok (.iinc 3 1, 3) := by decide +kernel
theorem dX10_said_49 : decode cX10_said 49 = .ok (.goto (-32), 3) := by decide +kernel
theorem dX10_said_52 : decode cX10_said 52 = .ok (.iload_n 2, 1) := by decide +kernel
theorem dX10_said_53 : decode cX10_said 53 = .ok (.ireturn, 1) := by decide +kernel
def fX10_said_B52 (v2 : Int32) (M : Mm) : Option (Int32 × Mm) :=
  some (v2, M)
theorem tX10_said_B52 (l : Launch) (G : Gx) (v2 : Int32) (M : Mm) : Sim cQi l layM G 5 cX10_said RX10 4 (some .int) 52 [(2, .int v2)] [] M (fX10_said_B52 v2 M) := by
  unfold fX10_said_B52
  refine s_iload_n 0 dX10_said_52 rfl rfl ?_
  exact s_iret rfl dX10_said_53
def fX10_said_B44 (q17 : Int32 → Int32 → Mm → Option (Int32 × Mm)) (v3 : Int32) (v1 : Int32) (w0 : Int32) (w1 : Int32) (M : Mm) : Option (Int32 × Mm) :=
  lt (w1 ||| w0) fun x7 =>
  q17 (v3 + 1) x7 M
theorem tX10_said_B44 (l : Launch) (G : Gx) (v3 : Int32) (v1 : Int32) (w0 : Int32) (w1 : Int32) (q17 : Int32 → Int32 → Mm → Option (Int32 × Mm)) (hq17 : ∀ (v3 : Int32) (v2 : Int32) (M : Mm), Sim cQi l layM G 5 cX10_said RX10 4 (some .int) 17 [(3, .int v3), (2, .int v2), (0, rf G 0), (1, .int v1)] [] M (q17 v3 v2 M)) (M : Mm) : Sim cQi l layM G 5 cX10_said RX10 4 (some .int) 44 [(3, .int v3), (0, rf G 0), (1, .int v1)] [.int w0, .int w1] M (fX10_said_B44 q17 v3 v1 w0 w1 M) := by
  unfold fX10_said_B44
  refine s_ior dX10_said_44 ?_
  refine s_leti fun x7 => ?_
  refine s_istore_n (lv' := [(2, .int x7), (3, .int v3), (0, rf G 0), (1, .int v1)]) dX10_said_45 rfl rfl rfl ?_
  refine s_iinc (k := 1) (lv' := [(3, .int (v3 + 1)), (2, .int x7), (0, rf G 0), (1, .int v1)]) dX10_said_46 rfl ci_1 rfl rfl ?_
  refine s_goto (tgt := 17) dX10_said_49 (by decide) ?_
  exact s_sub [0, 1, 2, 3] rfl (hq17 (v3 + 1) x7 M)
def fX10_said_L17b (v1 : Int32) (q17 : Int32 → Int32 → Mm → Option (Int32 × Mm)) (v3 : Int32) (v2 : Int32) (M : Mm) : Option (Int32 × Mm) :=
  if (M 1 (ix (1 : Int32))) ≤ v3 then (fX10_said_B52 v2 M)
  else bd (fX10_maySay v1 v3 M) fun r5 M6 =>
  if r5 = true then (fX10_said_B44 q17 v3 v1 ((1 : Int32) <<< (v3 &&& 31)) v2 M6)
  else fX10_said_B44 q17 v3 v1 (0 : Int32) v2 M6
def fX10_said_L17 (v1 : Int32) : Nat → Int32 → Int32 → Mm → Option (Int32 × Mm)
  | 0 => fun _ _ _ => none
  | n + 1 => fX10_said_L17b v1 (fX10_said_L17 v1 n)
theorem tX10_said_L17b (l : Launch) (G : Gx) (v1 : Int32) (q17 : Int32 → Int32 → Mm → Option (Int32 × Mm)) (hq17 : ∀ (v3 : Int32) (v2 : Int32) (M : Mm), Sim cQi l layM G 5 cX10_said RX10 4 (some .int) 17 [(3, .int v3), (2, .int v2), (0, rf G 0), (1, .int v1)] [] M (q17 v3 v2 M)) (v3 : Int32) (v2 : Int32) (M : Mm) : Sim cQi l layM G 5 cX10_said RX10 4 (some .int) 17 [(3, .int v3), (2, .int v2), (0, rf G 0), (1, .int v1)] [] M (fX10_said_L17b v1 q17 v3 v2 M) := by
  unfold fX10_said_L17b
  refine s_iload_n 0 dX10_said_17 rfl rfl ?_
  refine s_aload_n 2 dX10_said_18 rfl rfl ?_
  refine g_X10_7 (q := 1) rfl rfl dX10_said_19 ?_
  refine s_iconst (v := 1) dX10_said_22 ci_1 ?_
  refine s_iald (n := 626) rfl (by decide) dX10_said_23 ?_
  refine s_icmpge (tgt := 52) dX10_said_24 (by decide) ?_ ?_
  · exact s_sub [1] rfl (tX10_said_B52 l G v2 M)
  · refine s_iload_n 1 dX10_said_27 rfl rfl ?_
    refine s_aload_n 2 dX10_said_28 rfl rfl ?_
    refine s_iload_n 3 dX10_said_29 rfl rfl ?_
    refine s_iload_n 0 dX10_said_30 rfl rfl ?_
    refine s_call_z (s_runV (ci := 10) (rest := [.int v2]) rfl rfl (mX10_maySay l G v1 v3 M) ok_X10_maySay k_X10_222 rfl rfl rfl rfl dX10_said_31) fun r5 M6 => ?_
    refine s_ifeqB (tgt := 43) dX10_said_34 (by decide) ?_ ?_
    · refine s_iconst (v := 0) dX10_said_43 ci_0 ?_
      exact s_sub [0, 2, 3] rfl (tX10_said_B44 l G v3 v1 (0 : Int32) v2 q17 hq17 M6)
    · refine s_iconst (v := 1) dX10_said_37 ci_1 ?_
      refine s_iload_n 0 dX10_said_38 rfl rfl ?_
      refine s_ishl dX10_said_39 ?_
      refine s_goto (tgt := 44) dX10_said_40 (by decide) ?_
      exact s_sub [0, 2, 3] rfl (tX10_said_B44 l G v3 v1 ((1 : Int32) <<< (v3 &&& 31)) v2 q17 hq17 M6)
theorem tX10_said_L17 (l : Launch) (G : Gx) (v1 : Int32) : ∀ (n : Nat) (v3 : Int32) (v2 : Int32) (M : Mm), Sim cQi l layM G 5 cX10_said RX10 4 (some .int) 17 [(3, .int v3), (2, .int v2), (0, rf G 0), (1, .int v1)] [] M (fX10_said_L17 v1 n v3 v2 M)
  | 0, _, _, _ => s_none
  | n + 1, v3, v2, M => tX10_said_L17b l G v1 _ (tX10_said_L17 l G v1 n) v3 v2 M
def fX10_said (a1 : Int32) (M : Mm) : Option (Int32 × Mm) :=
  bd (fX10_isPage a1 M) fun r1 M2 =>
  if r1 = true then (fX10_said_L17 a1 FU (0 : Int32) (0 : Int32) M2)
  else bd (fX10_error (1 : Int32) M2) fun r3 M4 =>
  some (r3, M4)
theorem mX10_said (l : Launch) (G : Gx) (a1 : Int32) (M : Mm) : Mt cQi l layM G 5 yX10_said cX10_said 4 (some .int) [rf G 0, .int a1] M (fX10_said a1 M) := by
  refine Mt.of2 (own := RX10) (lv := [(0, rf G 0), (1, .int a1)]) rfl (by decide +kernel) rfl rfl ?_
  unfold fX10_said
  refine s_iload_n 1 dX10_said_0 rfl rfl ?_
  refine s_call_z (s_runS (rest := []) (mX10_isPage l G a1 M) ok_X10_isPage k_X10_182 rfl rfl rfl rfl dX10_said_1) fun r1 M2 => ?_
  refine s_ifneB (tgt := 13) dX10_said_4 (by decide) ?_ ?_
  · refine s_iconst (v := 0) dX10_said_13 ci_0 ?_
    refine s_istore_n (lv' := [(2, .int (0 : Int32)), (0, rf G 0), (1, .int a1)]) dX10_said_14 rfl rfl rfl ?_
    refine s_iconst (v := 0) dX10_said_15 ci_0 ?_
    refine s_istore_n (lv' := [(3, .int (0 : Int32)), (2, .int (0 : Int32)), (0, rf G 0), (1, .int a1)]) dX10_said_16 rfl rfl rfl ?_
    exact s_sub [0, 1, 2, 3] rfl (tX10_said_L17 l G a1 FU (0 : Int32) (0 : Int32) M2)
  · refine s_aload_n 0 dX10_said_7 rfl rfl ?_
    refine s_iconst (v := 1) dX10_said_8 ci_1 ?_
    refine s_call_i (s_runV (ci := 10) (rest := []) rfl rfl (mX10_error l G (1 : Int32) M2) ok_X10_error k_X10_75 rfl rfl rfl rfl dX10_said_9) fun r3 M4 => ?_
    exact s_iret rfl dX10_said_12
theorem dX10_inCase_0 : decode cX10_inCase 0 = .ok (.iload_n 1, 1) := by decide +kernel
theorem dX10_inCase_1 : decode cX10_inCase 1 = .ok (.iconst 1, 1) := by decide +kernel
theorem dX10_inCase_2 : decode cX10_inCase 2 = .ok (.bipush 26, 2) := by decide +kernel
theorem dX10_inCase_4 : decode cX10_inCase 4 = .ok (.invokestatic 59, 3) := by decide +kernel
theorem dX10_inCase_7 : decode cX10_inCase 7 = .ok (.ifCond .eq 11, 3) := by decide +kernel
theorem dX10_inCase_10 : decode cX10_inCase 10 = .ok (.aload_n 0, 1) := by decide +kernel
theorem dX10_inCase_11 : decode cX10_inCase 11 = .ok (.iload_n 1, 1) := by decide +kernel
theorem dX10_inCase_12 : decode cX10_inCase 12 = .ok (.invokevirtual 179, 3) := by decide +kernel
theorem dX10_inCase_15 : decode cX10_inCase 15 = .ok (.goto 8, 3) := by decide +kernel
theorem dX10_inCase_18 : decode cX10_inCase 18 = .ok (.aload_n 0, 1) := by decide +kernel
theorem dX10_inCase_19 : decode cX10_inCase 19 = .ok (.iconst 1, 1) := by decide +kernel
theorem dX10_inCase_20 : decode cX10_inCase 20 = .ok (.invokevirtual 75, 3) := by decide +kernel
theorem dX10_inCase_23 : decode cX10_inCase 23 = .ok (.ireturn, 1) := by decide +kernel
def fX10_inCase_B23 (w0 : Int32) (M : Mm) : Option (Int32 × Mm) :=
  some (w0, M)
theorem tX10_inCase_B23 (l : Launch) (G : Gx) (w0 : Int32) (M : Mm) : Sim cQi l layM G 4 cX10_inCase RX10 2 (some .int) 23 [] [.int w0] M (fX10_inCase_B23 w0 M) := by
  unfold fX10_inCase_B23
  exact s_iret rfl dX10_inCase_23
def fX10_inCase (a1 : Int32) (M : Mm) : Option (Int32 × Mm) :=
  bd (fX10_in a1 (1 : Int32) (26 : Int32) M) fun r1 M2 =>
  if r1 = true then (bd (fX10_caseOf a1 M2) fun r3 M4 =>
  fX10_inCase_B23 r3 M4)
  else bd (fX10_error (1 : Int32) M2) fun r5 M6 =>
  fX10_inCase_B23 r5 M6
theorem mX10_inCase (l : Launch) (G : Gx) (a1 : Int32) (M : Mm) : Mt cQi l layM G 4 yX10_inCase cX10_inCase 2 (some .int) [rf G 0, .int a1] M (fX10_inCase a1 M) := by
  refine Mt.of2 (own := RX10) (lv := [(0, rf G 0), (1, .int a1)]) rfl (by decide +kernel) rfl rfl ?_
  unfold fX10_inCase
  refine s_iload_n 1 dX10_inCase_0 rfl rfl ?_
  refine s_iconst (v := 1) dX10_inCase_1 ci_1 ?_
  refine s_bipush (v := 26) dX10_inCase_2 cb_26 ?_
  refine s_call_z (s_runS (rest := []) (mX10_in l G a1 (1 : Int32) (26 : Int32) M) ok_X10_in k_X10_59 rfl rfl rfl rfl dX10_inCase_4) fun r1 M2 => ?_
  refine s_ifeqB (tgt := 18) dX10_inCase_7 (by decide) ?_ ?_
  · refine s_aload_n 0 dX10_inCase_18 rfl rfl ?_
    refine s_iconst (v := 1) dX10_inCase_19 ci_1 ?_
    refine s_call_i (s_runV (ci := 10) (rest := []) rfl rfl (mX10_error l G (1 : Int32) M2) ok_X10_error k_X10_75 rfl rfl rfl rfl dX10_inCase_20) fun r5 M6 => ?_
    exact s_sub [] rfl (tX10_inCase_B23 l G r5 M6)
  · refine s_aload_n 0 dX10_inCase_10 rfl rfl ?_
    refine s_iload_n 1 dX10_inCase_11 rfl rfl ?_
    refine s_call_i (s_runV (ci := 10) (rest := []) rfl rfl (mX10_caseOf l G a1 M2) ok_X10_caseOf k_X10_179 rfl rfl rfl rfl dX10_inCase_12) fun r3 M4 => ?_
    refine s_goto (tgt := 23) dX10_inCase_15 (by decide) ?_
    exact s_sub [] rfl (tX10_inCase_B23 l G r3 M4)
theorem dX10_draw_0 : decode cX10_draw 0 = .ok (.aload_n 0, 1) := by decide +kernel
theorem dX10_draw_1 : decode cX10_draw 1 = .ok (.getfield 7, 3) := by decide +kernel
theorem dX10_draw_4 : decode cX10_draw 4 = .ok (.bipush 7, 2) := by decide +kernel
theorem dX10_draw_6 : decode cX10_draw 6 = .ok (.aload_n 0, 1) := by decide +kernel
theorem dX10_draw_7 : decode cX10_draw 7 = .ok (.getfield 7, 3) := by decide +kernel
theorem dX10_draw_10 : decode cX10_draw 10 = .ok (.bipush 7, 2) := by decide +kernel
theorem dX10_draw_12 : decode cX10_draw 12 = .ok (.iaload, 1) := by decide +kernel
theorem dX10_draw_13 : decode cX10_draw 13 = .ok (.ldc 225, 2) := by decide +kernel
theorem dX10_draw_15 : decode cX10_draw 15 = .ok (.imul, 1) := by decide +kernel
theorem dX10_draw_16 : decode cX10_draw 16 = .ok (.sipush 12345, 3) := by decide +kernel
theorem dX10_draw_19 : decode cX10_draw 19 = .ok (.iadd, 1) := by decide +kernel
theorem dX10_draw_20 : decode cX10_draw 20 = .ok (.iastore, 1) := by decide +kernel
theorem dX10_draw_21 : decode cX10_draw 21 = .ok (.aload_n 0, 1) := by decide +kernel
theorem dX10_draw_22 : decode cX10_draw 22 = .ok (.getfield 7, 3) := by decide +kernel
theorem dX10_draw_25 : decode cX10_draw 25 = .ok (.bipush 7, 2) := by decide +kernel
theorem dX10_draw_27 : decode cX10_draw 27 = .ok (.iaload, 1) := by decide +kernel
theorem dX10_draw_28 : decode cX10_draw 28 = .ok (.bipush 8, 2) := by decide +kernel
theorem dX10_draw_30 : decode cX10_draw 30 = .ok (.iushr, 1) := by decide +kernel
theorem dX10_draw_31 : decode cX10_draw 31 = .ok (.ireturn, 1) := by decide +kernel
def fX10_draw  (M : Mm) : Option (Int32 × Mm) :=
  lt (wr M 1 (ix (7 : Int32)) (((M 1 (ix (7 : Int32))) * (1103515245 : Int32)) + (12345 : Int32))) fun M1 =>
  some (((M1 1 (ix (7 : Int32))).toUInt32 >>> ((8 : Int32).toUInt32 &&& Int32.toUInt32 31)).toInt32, M1)
theorem mX10_draw (l : Launch) (G : Gx)  (M : Mm) : Mt cQi l layM G 1 yX10_draw cX10_draw 1 (some .int) [rf G 0] M (fX10_draw M) := by
  refine Mt.of2 (own := RX10) (lv := [(0, rf G 0)]) rfl (by decide +kernel) rfl rfl ?_
  unfold fX10_draw
  refine s_aload_n 0 dX10_draw_0 rfl rfl ?_
  refine g_X10_7 (q := 1) rfl rfl dX10_draw_1 ?_
  refine s_bipush (v := 7) dX10_draw_4 cb_7 ?_
  refine s_aload_n 0 dX10_draw_6 rfl rfl ?_
  refine g_X10_7 (q := 1) rfl rfl dX10_draw_7 ?_
  refine s_bipush (v := 7) dX10_draw_10 cb_7 ?_
  refine s_iald (n := 626) rfl (by decide) dX10_draw_12 ?_
  refine s_ldc (v := 1103515245) dX10_draw_13 q_1344 ?_
  refine s_imul dX10_draw_15 ?_
  refine s_sipush (v := 12345) dX10_draw_16 cs_12345 ?_
  refine s_iadd dX10_draw_19 ?_
  refine s_iast (n := 626) rfl (by decide) dX10_draw_20 ?_
  refine s_letM fun M1 => ?_
  refine s_aload_n 0 dX10_draw_21 rfl rfl ?_
  refine g_X10_7 (q := 1) rfl rfl dX10_draw_22 ?_
  refine s_bipush (v := 7) dX10_draw_25 cb_7 ?_
  refine s_iald (n := 626) rfl (by decide) dX10_draw_27 ?_
  refine s_bipush (v := 8) dX10_draw_28 cb_8 ?_
  refine s_iushr dX10_draw_30 ?_
  exact s_iret rfl dX10_draw_31
theorem dX10_day_0 : decode cX10_day 0 = .ok (.aload_n 0, 1) := by decide +kernel
theorem dX10_day_1 : decode cX10_day 1 = .ok (.invokevirtual 226, 3) := by decide +kernel
theorem dX10_day_4 : decode cX10_day 4 = .ok (.bipush 7, 2) := by decide +kernel
theorem dX10_day_6 : decode cX10_day 6 = .ok (.irem, 1) := by decide +kernel
theorem dX10_day_7 : decode cX10_day 7 = .ok (.iconst 3, 1) := by decide +kernel
theorem dX10_day_8 : decode cX10_day 8 = .ok (.isub, 1) := by decide +kernel
theorem dX10_day_9 : decode cX10_day 9 = .ok (.istore_n 1, 1) := by decide +kernel
theorem dX10_day_10 : decode cX10_day 10 = .ok (.iconst 0, 1) := by decide +kernel
theorem dX10_day_11 : decode cX10_day 11 = .ok (.istore_n 2, 1) := by decide +kernel
theorem dX10_day_12 : decode cX10_day 12 = .ok (.iload_n 2, 1) := by decide +kernel
theorem dX10_day_13 : decode cX10_day 13 = .ok (.iconst 4, 1) := by decide +kernel
theorem dX10_day_14 : decode cX10_day 14 = .ok (.if_icmp .ge 36, 3) := by decide +kernel
theorem dX10_day_17 : decode cX10_day 17 = .ok (.aload_n 0, 1) := by decide +kernel
theorem dX10_day_18 : decode cX10_day 18 = .ok (.getfield 7, 3) := by decide +kernel
theorem dX10_day_21 : decode cX10_day 21 = .ok (.bipush 8, 2) := by decide +kernel
theorem dX10_day_23 : decode cX10_day 23 = .ok (.iload_n 2, 1) := by decide +kernel
theorem dX10_day_24 : decode cX10_day 24 = .ok (.iadd, 1) := by decide +kernel
theorem dX10_day_25 : decode cX10_day 25 = .ok (.aload_n 0, 1) := by decide +kernel
theorem dX10_day_26 : decode cX10_day 26 = .ok (.getfield 7, 3) := by decide +kernel
theorem dX10_day_29 : decode cX10_day 29 = .ok (.bipush 8, 2) := by decide +kernel
theorem dX10_day_31 : decode cX10_day 31 = .ok (.iload_n 2, 1) := by decide +kernel
theorem dX10_day_32 : decode cX10_day 32 = .ok (.iadd, 1) := by decide +kernel
theorem dX10_day_33 : decode cX10_day 33 = .ok (.iaload, 1) := by decide +kernel
theorem dX10_day_34 : decode cX10_day 34 = .ok (.iload_n 1, 1) := by decide +kernel
theorem dX10_day_35 : decode cX10_day 35 = .ok (.isub, 1) := by decide +kernel
theorem dX10_day_36 : decode cX10_day 36 = .ok (.bipush (-9), 2) := by decide +kernel
theorem dX10_day_38 : decode cX10_day 38 = .ok (.bipush 20, 2) := by decide +kernel
theorem dX10_day_40 : decode cX10_day 40 = .ok (.invokestatic 64, 3) := by decide +kernel
theorem dX10_day_43 : decode cX10_day 43 = .ok (.iastore, 1) := by decide +kernel
theorem dX10_day_44 : decode cX10_day 44 = .ok (.iinc 2 1, 3) := by decide +kernel
theorem dX10_day_47 : decode cX10_day 47 = .ok (.goto (-35), 3) := by decide +kernel
theorem dX10_day_50 : decode cX10_day 50 = .ok (.iconst 0, 1) := by decide +kernel
theorem dX10_day_51 : decode cX10_day 51 = .ok (.istore_n 2, 1) := by decide +kernel
theorem dX10_day_52 : decode cX10_day 52 = .ok (.iconst 0, 1) := by decide +kernel
theorem dX10_day_53 : decode cX10_day 53 = .ok (.istore_n 3, 1) := by decide +kernel
theorem dX10_day_54 : decode cX10_day 54 = .ok (.iload_n 3, 1) := by decide +kernel
theorem dX10_day_55 : decode cX10_day 55 = .ok (.aload_n 0, 1) := by decide +kernel
theorem dX10_day_56 : decode cX10_day 56 = .ok (.getfield 7, 3) := by decide +kernel
theorem dX10_day_59 : decode cX10_day 59 = .ok (.iconst 0, 1) := by decide +kernel
theorem dX10_day_60 : decode cX10_day 60 = .ok (.iaload, 1) := by decide +kernel
theorem dX10_day_61 : decode cX10_day 61 = .ok (.if_icmp .ge 48, 3) := by decide +kernel
theorem dX10_day_64 : decode cX10_day 64 = .ok (.aload_n 0, 1) := by decide +kernel
theorem dX10_day_65 : decode cX10_day 65 = .ok (.iload_n 3, 1) := by decide +kernel
theorem dX10_day_66 : decode cX10_day 66 = .ok (.iconst 5, 1) := by decide +kernel
theorem dX10_day_67 : decode cX10_day 67 = .ok (.invokevirtual 137, 3) := by decide +kernel
theorem dX10_day_70 : decode cX10_day 70 = .ok (.iconst (-1), 1) := by decide +kernel
theorem dX10_day_71 : decode cX10_day 71 = .ok (.if_icmp .ne 32, 3) := by decide +kernel
theorem dX10_day_74 : decode cX10_day 74 = .ok (.aload_n 0, 1) := by decide +kernel
theorem dX10_day_75 : decode cX10_day 75 = .ok (.iload_n 3, 1) := by decide +kernel
theorem dX10_day_76 : decode cX10_day 76 = .ok (.invokevirtual 156, 3) := by decide +kernel
theorem dX10_day_79 : decode cX10_day 79 = .ok (.iconst 2, 1) := by decide +kernel
theorem dX10_day_80 : decode cX10_day 80 = .ok (.idiv, 1) := by decide +kernel
theorem dX10_day_81 : decode cX10_day 81 = .ok (.istore 4, 2) := by decide +kernel
theorem dX10_day_83 : decode cX10_day 83 = .ok (.aload_n 0, 1) := by decide +kernel
theorem dX10_day_84 : decode cX10_day 84 = .ok (.iload_n 3, 1) := by decide +kernel
theorem dX10_day_85 : decode cX10_day 85 = .ok (.iconst 3, 1) := by decide +kernel
theorem dX10_day_86 : decode cX10_day 86 = .ok (.aload_n 0, 1) := by decide +kernel
theorem dX10_day_87 : decode cX10_day 87 = .ok (.iload_n 3, 1) := by decide +kernel
theorem dX10_day_88 : decode cX10_day 88 = .ok (.iconst 3, 1) := by decide +kernel
theorem dX10_day_89 : decode cX10_day 89 = .ok (.invokevirtual 137, 3) := by decide +kernel
theorem dX10_day_92 : decode cX10_day 92 = .ok (.iload 4, 2) := by decide +kernel
theorem dX10_day_94 : decode cX10_day 94 = .ok (.isub, 1) := by decide +kernel
theorem dX10_day_95 : decode cX10_day 95 = .ok (.invokevirtual 68, 3) := by decide +kernel
theorem dX10_day_98 : decode cX10_day 98 = .ok (.iload_n 2, 1) := by decide +kernel
theorem dX10_day_99 : decode cX10_day 99 = .ok (.iload 4, 2) := by decide +kernel
theorem dX10_day_101 : decode cX10_day 101 = .ok (.iadd, 1) := by decide +kernel
theorem dX10_day_102 : decode cX10_day 102 = .ok (.istore_n 2, 1) := by decide +kernel
theorem dX10_day_103 : decode cX10_day 103 = .ok (.iinc 3 1, 3) := by decide +kernel
theorem dX10_day_106 : decode cX10_day 106 = .ok (.goto (-52), 3) := by decide +kernel
theorem dX10_day_109 : decode cX10_day 109 = .ok (.aload_n 0, 1) := by decide +kernel
theorem dX10_day_110 : decode cX10_day 110 = .ok (.getfield 7, 3) := by decide +kernel
theorem dX10_day_113 : decode cX10_day 113 = .ok (.iconst 4, 1) := by decide +kernel
theorem dX10_day_114 : decode cX10_day 114 = .ok (.dup2, 1) := by decide +kernel
theorem dX10_day_115 : decode cX10_day 115 = .ok (.iaload, 1) := by decide +kernel
theorem dX10_day_116 : decode cX10_day 116 = .ok (.iload_n 2, 1) := by decide +kernel
theorem dX10_day_117 : decode cX10_day 117 = .ok (.iadd, 1) := by decide +kernel
theorem dX10_day_118 : decode cX10_day 118 = .ok (.iastore, 1) := by decide +kernel
theorem dX10_day_119 : decode cX10_day 119 = .ok (.iload_n 2, 1) := by decide +kernel
theorem dX10_day_120 : decode cX10_day 120 = .ok (.ireturn, 1) := by decide +kernel
def fX10_day_B109 (v2 : Int32) (M : Mm) : Option (Int32 × Mm) :=
  lt (wr M 1 (ix (4 : Int32)) ((M 1 (ix (4 : Int32))) + v2)) fun M4 =>
  some (v2, M4)
theorem tX10_day_B109 (l : Launch) (G : Gx) (v2 : Int32) (M : Mm) : Sim cQi l layM G 5 cX10_day RX10 5 (some .int) 109 [(2, .int v2), (0, rf G 0)] [] M (fX10_day_B109 v2 M) := by
  unfold fX10_day_B109
  refine s_aload_n 1 dX10_day_109 rfl rfl ?_
  refine g_X10_7 (q := 1) rfl rfl dX10_day_110 ?_
  refine s_iconst (v := 4) dX10_day_113 ci_4 ?_
  refine s_dup2 dX10_day_114 rfl rfl ?_
  refine s_iald (n := 626) rfl (by decide) dX10_day_115 ?_
  refine s_iload_n 0 dX10_day_116 rfl rfl ?_
  refine s_iadd dX10_day_117 ?_
  refine s_iast (n := 626) rfl (by decide) dX10_day_118 ?_
  refine s_letM fun M4 => ?_
  refine s_iload_n 0 dX10_day_119 rfl rfl ?_
  exact s_iret rfl dX10_day_120
def fX10_day_B103 (q54 : Int32 → Int32 → Mm → Option (Int32 × Mm)) (v3 : Int32) (v2 : Int32) (M : Mm) : Option (Int32 × Mm) :=
  q54 (v3 + 1) v2 M
theorem tX10_day_B103 (l : Launch) (G : Gx) (v3 : Int32) (v2 : Int32) (q54 : Int32 → Int32 → Mm → Option (Int32 × Mm)) (hq54 : ∀ (v3 : Int32) (v2 : Int32) (M : Mm), Sim cQi l layM G 5 cX10_day RX10 5 (some .int) 54 [(3, .int v3), (2, .int v2), (0, rf G 0)] [] M (q54 v3 v2 M)) (M : Mm) : Sim cQi l layM G 5 cX10_day RX10 5 (some .int) 103 [(3, .int v3), (2, .int v2), (0, rf G 0)] [] M (fX10_day_B103 q54 v3 v2 M) := by
  unfold fX10_day_B103
  refine s_iinc (k := 0) (lv' := [(3, .int (v3 + 1)), (2, .int v2), (0, rf G 0)]) dX10_day_103 rfl ci_1 rfl rfl ?_
  refine s_goto (tgt := 54) dX10_day_106 (by decide) ?_
  exact s_sub [0, 1, 2] rfl (hq54 (v3 + 1) v2 M)
def fX10_day_L54b (q54 : Int32 → Int32 → Mm → Option (Int32 × Mm)) (v3 : Int32) (v2 : Int32) (M : Mm) : Option (Int32 × Mm) :=
  if (M 1 (ix (0 : Int32))) ≤ v3 then (fX10_day_B109 v2 M)
  else bd (fX10_its v3 (5 : Int32) M) fun r5 M6 =>
  if r5 = (-1 : Int32) then (bd (fX10_melts v3 M6) fun r7 M8 =>
  lt (r7 / (2 : Int32)) fun x9 =>
  bd (fX10_its v3 (3 : Int32) M8) fun r10 M11 =>
  bd (fX10_lays1 v3 (3 : Int32) (r10 - x9) M11) fun r12 M13 =>
  lt (v2 + x9) fun x14 =>
  fX10_day_B103 q54 v3 x14 M13)
  else fX10_day_B103 q54 v3 v2 M6
def fX10_day_L54  : Nat → Int32 → Int32 → Mm → Option (Int32 × Mm)
  | 0 => fun _ _ _ => none
  | n + 1 => fX10_day_L54b  (fX10_day_L54  n)
theorem tX10_day_L54b (l : Launch) (G : Gx) (q54 : Int32 → Int32 → Mm → Option (Int32 × Mm)) (hq54 : ∀ (v3 : Int32) (v2 : Int32) (M : Mm), Sim cQi l layM G 5 cX10_day RX10 5 (some .int) 54 [(3, .int v3), (2, .int v2), (0, rf G 0)] [] M (q54 v3 v2 M)) (v3 : Int32) (v2 : Int32) (M : Mm) : Sim cQi l layM G 5 cX10_day RX10 5 (some .int) 54 [(3, .int v3), (2, .int v2), (0, rf G 0)] [] M (fX10_day_L54b q54 v3 v2 M) := by
  unfold fX10_day_L54b
  refine s_iload_n 0 dX10_day_54 rfl rfl ?_
  refine s_aload_n 2 dX10_day_55 rfl rfl ?_
  refine g_X10_7 (q := 1) rfl rfl dX10_day_56 ?_
  refine s_iconst (v := 0) dX10_day_59 ci_0 ?_
  refine s_iald (n := 626) rfl (by decide) dX10_day_60 ?_
  refine s_icmpge (tgt := 109) dX10_day_61 (by decide) ?_ ?_
  · exact s_sub [1, 2] rfl (tX10_day_B109 l G v2 M)
  · refine s_aload_n 2 dX10_day_64 rfl rfl ?_
    refine s_iload_n 0 dX10_day_65 rfl rfl ?_
    refine s_iconst (v := 5) dX10_day_66 ci_5 ?_
    refine s_call_i (s_runV (ci := 10) (rest := []) rfl rfl (mX10_its l G v3 (5 : Int32) M) ok_X10_its k_X10_137 rfl rfl rfl rfl dX10_day_67) fun r5 M6 => ?_
    refine s_iconst (v := -1) dX10_day_70 ci_m1 ?_
    refine s_icmpne (tgt := 103) dX10_day_71 (by decide) ?_ ?_
    · exact s_sub [0, 1, 2] rfl (tX10_day_B103 l G v3 v2 q54 hq54 M6)
    · refine s_aload_n 2 dX10_day_74 rfl rfl ?_
      refine s_iload_n 0 dX10_day_75 rfl rfl ?_
      refine s_call_i (s_runV (ci := 10) (rest := []) rfl rfl (mX10_melts l G v3 M6) ok_X10_melts k_X10_156 rfl rfl rfl rfl dX10_day_76) fun r7 M8 => ?_
      refine s_iconst (v := 2) dX10_day_79 ci_2 ?_
      refine s_idiv dX10_day_80 (by decide) ?_
      refine s_leti fun x9 => ?_
      refine s_istore (lv' := [(4, .int x9), (3, .int v3), (2, .int v2), (0, rf G 0)]) dX10_day_81 rfl rfl ?_
      refine s_aload_n 3 dX10_day_83 rfl rfl ?_
      refine s_iload_n 1 dX10_day_84 rfl rfl ?_
      refine s_iconst (v := 3) dX10_day_85 ci_3 ?_
      refine s_aload_n 3 dX10_day_86 rfl rfl ?_
      refine s_iload_n 1 dX10_day_87 rfl rfl ?_
      refine s_iconst (v := 3) dX10_day_88 ci_3 ?_
      refine s_call_i (s_runV (ci := 10) (rest := [.int (3 : Int32), .int v3, rf G 0]) rfl rfl (mX10_its l G v3 (3 : Int32) M8) ok_X10_its k_X10_137 rfl rfl rfl rfl dX10_day_89) fun r10 M11 => ?_
      refine s_iload 0 dX10_day_92 rfl ?_
      refine s_isub dX10_day_94 ?_
      refine s_call_v (s_runV (ci := 10) (rest := []) rfl rfl (mX10_lays1 l G v3 (3 : Int32) (r10 - x9) M11) ok_X10_lays1 k_X10_68 rfl rfl rfl rfl dX10_day_95) fun r12 M13 => ?_
      refine s_iload_n 2 dX10_day_98 rfl rfl ?_
      refine s_iload 0 dX10_day_99 rfl ?_
      refine s_iadd dX10_day_101 ?_
      refine s_leti fun x14 => ?_
      refine s_istore_n (lv' := [(2, .int x14), (4, .int x9), (3, .int v3), (0, rf G 0)]) dX10_day_102 rfl rfl rfl ?_
      exact s_sub [2, 0, 3] rfl (tX10_day_B103 l G v3 x14 q54 hq54 M13)
theorem tX10_day_L54 (l : Launch) (G : Gx) : ∀ (n : Nat) (v3 : Int32) (v2 : Int32) (M : Mm), Sim cQi l layM G 5 cX10_day RX10 5 (some .int) 54 [(3, .int v3), (2, .int v2), (0, rf G 0)] [] M (fX10_day_L54 n v3 v2 M)
  | 0, _, _, _ => s_none
  | n + 1, v3, v2, M => tX10_day_L54b l G _ (tX10_day_L54 l G n) v3 v2 M
def fX10_day_B50 (M : Mm) : Option (Int32 × Mm) :=
  fX10_day_L54 FU (0 : Int32) (0 : Int32) M
theorem tX10_day_B50 (l : Launch) (G : Gx) (M : Mm) : Sim cQi l layM G 5 cX10_day RX10 5 (some .int) 50 [(0, rf G 0)] [] M (fX10_day_B50 M) := by
  unfold fX10_day_B50
  refine s_iconst (v := 0) dX10_day_50 ci_0 ?_
  refine s_istore_n (lv' := [(2, .int (0 : Int32)), (0, rf G 0)]) dX10_day_51 rfl rfl rfl ?_
  refine s_iconst (v := 0) dX10_day_52 ci_0 ?_
  refine s_istore_n (lv' := [(3, .int (0 : Int32)), (2, .int (0 : Int32)), (0, rf G 0)]) dX10_day_53 rfl rfl rfl ?_
  exact s_sub [0, 1, 2] rfl (tX10_day_L54 l G FU (0 : Int32) (0 : Int32) M)
def fX10_day_L12b (v1 : Int32) (q12 : Int32 → Mm → Option (Int32 × Mm)) (v2 : Int32) (M : Mm) : Option (Int32 × Mm) :=
  if (4 : Int32) ≤ v2 then (fX10_day_B50 M)
  else gd (inb ((8 : Int32) + v2) 626) <|
  bd (fX10_held ((M 1 (ix ((8 : Int32) + v2))) - v1) (-9 : Int32) (20 : Int32) M) fun r16 M17 =>
  lt (wr M17 1 (ix ((8 : Int32) + v2)) r16) fun M18 =>
  q12 (v2 + 1) M18
def fX10_day_L12 (v1 : Int32) : Nat → Int32 → Mm → Option (Int32 × Mm)
  | 0 => fun _ _ => none
  | n + 1 => fX10_day_L12b v1 (fX10_day_L12 v1 n)
theorem tX10_day_L12b (l : Launch) (G : Gx) (v1 : Int32) (q12 : Int32 → Mm → Option (Int32 × Mm)) (hq12 : ∀ (v2 : Int32) (M : Mm), Sim cQi l layM G 5 cX10_day RX10 5 (some .int) 12 [(2, .int v2), (1, .int v1), (0, rf G 0)] [] M (q12 v2 M)) (v2 : Int32) (M : Mm) : Sim cQi l layM G 5 cX10_day RX10 5 (some .int) 12 [(2, .int v2), (1, .int v1), (0, rf G 0)] [] M (fX10_day_L12b v1 q12 v2 M) := by
  unfold fX10_day_L12b
  refine s_iload_n 0 dX10_day_12 rfl rfl ?_
  refine s_iconst (v := 4) dX10_day_13 ci_4 ?_
  refine s_icmpge (tgt := 50) dX10_day_14 (by decide) ?_ ?_
  · exact s_sub [2] rfl (tX10_day_B50 l G M)
  · refine s_aload_n 2 dX10_day_17 rfl rfl ?_
    refine g_X10_7 (q := 1) rfl rfl dX10_day_18 ?_
    refine s_bipush (v := 8) dX10_day_21 cb_8 ?_
    refine s_iload_n 0 dX10_day_23 rfl rfl ?_
    refine s_iadd dX10_day_24 ?_
    refine s_aload_n 2 dX10_day_25 rfl rfl ?_
    refine g_X10_7 (q := 1) rfl rfl dX10_day_26 ?_
    refine s_bipush (v := 8) dX10_day_29 cb_8 ?_
    refine s_iload_n 0 dX10_day_31 rfl rfl ?_
    refine s_iadd dX10_day_32 ?_
    refine s_gd fun h15 => ?_
    refine s_iald (n := 626) rfl h15 dX10_day_33 ?_
    refine s_iload_n 1 dX10_day_34 rfl rfl ?_
    refine s_isub dX10_day_35 ?_
    refine s_bipush (v := -9) dX10_day_36 cb_m9 ?_
    refine s_bipush (v := 20) dX10_day_38 cb_20 ?_
    refine s_call_i (s_runS (rest := [.int ((8 : Int32) + v2), rf G 1]) (mX10_held l G ((M 1 (ix ((8 : Int32) + v2))) - v1) (-9 : Int32) (20 : Int32) M) ok_X10_held k_X10_64 rfl rfl rfl rfl dX10_day_40) fun r16 M17 => ?_
    refine s_iast (n := 626) rfl h15 dX10_day_43 ?_
    refine s_letM fun M18 => ?_
    refine s_iinc (k := 0) (lv' := [(2, .int (v2 + 1)), (1, .int v1), (0, rf G 0)]) dX10_day_44 rfl ci_1 rfl rfl ?_
    refine s_goto (tgt := 12) dX10_day_47 (by decide) ?_
    exact s_sub [0, 1, 2] rfl (hq12 (v2 + 1) M18)
theorem tX10_day_L12 (l : Launch) (G : Gx) (v1 : Int32) : ∀ (n : Nat) (v2 : Int32) (M : Mm), Sim cQi l layM G 5 cX10_day RX10 5 (some .int) 12 [(2, .int v2), (1, .int v1), (0, rf G 0)] [] M (fX10_day_L12 v1 n v2 M)
  | 0, _, _ => s_none
  | n + 1, v2, M => tX10_day_L12b l G v1 _ (tX10_day_L12 l G v1 n) v2 M
def fX10_day  (M : Mm) : Option (Int32 × Mm) :=
  bd (fX10_draw M) fun r1 M2 =>
  lt ((r1 - r1 / (7 : Int32) * (7 : Int32)) - (3 : Int32)) fun x3 =>
  fX10_day_L12 x3 FU (0 : Int32) M2
theorem mX10_day (l : Launch) (G : Gx)  (M : Mm) : Mt cQi l layM G 5 yX10_day cX10_day 5 (some .int) [rf G 0] M (fX10_day M) := by
  refine Mt.of2 (own := RX10) (lv := [(0, rf G 0)]) rfl (by decide +kernel) rfl rfl ?_
  unfold fX10_day
  refine s_aload_n 0 dX10_day_0 rfl rfl ?_
  refine s_call_i (s_runV (ci := 10) (rest := []) rfl rfl (mX10_draw l G M) ok_X10_draw k_X10_226 rfl rfl rfl rfl dX10_day_1) fun r1 M2 => ?_
  refine s_bipush (v := 7) dX10_day_4 cb_7 ?_
  refine s_irem dX10_day_6 (by decide) ?_
  refine s_iconst (v := 3) dX10_day_7 ci_3 ?_
  refine s_isub dX10_day_8 ?_
  refine s_leti fun x3 => ?_
  refine s_istore_n (lv' := [(1, .int x3), (0, rf G 0)]) dX10_day_9 rfl rfl rfl ?_
  refine s_iconst (v := 0) dX10_day_10 ci_0 ?_
  refine s_istore_n (lv' := [(2, .int (0 : Int32)), (1, .int x3), (0, rf G 0)]) dX10_day_11 rfl rfl rfl ?_
  exact s_sub [0, 1, 2] rfl (tX10_day_L12 l G x3 FU (0 : Int32) M2)
theorem dX10_days_0 : decode cX10_days 0 = .ok (.iload_n 1, 1) := by decide +kernel
theorem dX10_days_1 : decode cX10_days 1 = .ok (.iconst 1, 1) := by decide +kernel
theorem dX10_days_2 : decode cX10_days 2 = .ok (.bipush 20, 2) := by decide +kernel
theorem dX10_days_4 : decode cX10_days 4 = .ok (.invokestatic 59, 3) := by decide +kernel
theorem dX10_days_7 : decode cX10_days 7 = .ok (.ifCond .ne 9, 3) := by decide +kernel
theorem dX10_days_10 : decode cX10_days 10 = .ok (.aload_n 0, 1) := by decide +kernel
theorem dX10_days_11 : decode cX10_days 11 = .ok (.iconst 1, 1) := by decide +kernel
theorem dX10_days_12 : decode cX10_days 12 = .ok (.invokevirtual 75, 3) := by decide +kernel
theorem dX10_days_15 : decode cX10_days 15 = .ok (.ireturn, 1) := by decide +kernel
theorem dX10_days_16 : decode cX10_days 16 = .ok (.iconst 0, 1) := by decide +kernel
theorem dX10_days_17 : decode cX10_days 17 = .ok (.istore_n 2, 1) := by decide +kernel
theorem dX10_days_18 : decode cX10_days 18 = .ok (.iconst 0, 1) := by decide +kernel
theorem dX10_days_19 : decode cX10_days 19 = .ok (.istore_n 3, 1) := by decide +kernel
theorem dX10_days_20 : decode cX10_days 20 = .ok (.iload_n 3, 1) := by decide +kernel
theorem dX10_days_21 : decode cX10_days 21 = .ok (.iload_n 1, 1) := by decide +kernel
theorem dX10_days_22 : decode cX10_days 22 = .ok (.if_icmp .ge 16, 3) := by decide +kernel
theorem dX10_days_25 : decode cX10_days 25 = .ok (.iload_n 2, 1) := by decide +kernel
theorem dX10_days_26 : decode cX10_days 26 = .ok (.aload_n 0, 1) := by decide +kernel
theorem dX10_days_27 : decode cX10_days 27 = .ok (.invokevirtual 229, 3) := by decide +kernel
theorem dX10_days_30 : decode cX10_days 30 = .ok (.iadd, 1) := by decide +kernel
theorem dX10_days_31 : decode cX10_days 31 = .ok (.istore_n 2, 1) := by decide +kernel
theorem dX10_days_32 : decode cX10_days 32 = .ok (.iinc 3 1, 3) := by decide +kernel
theorem dX10_days_35 : decode cX10_days 35 = .ok (.goto (-15), 3) := by decide +kernel
theorem dX10_days_38 : decode cX10_days 38 = .ok (.iload_n 2, 1) := by decide +kernel
theorem dX10_days_39 : decode cX10_days 39 = .ok (.ireturn, 1) := by decide +kernel
def fX10_days_B38 (v2 : Int32) (M : Mm) : Option (Int32 × Mm) :=
  some (v2, M)
theorem tX10_days_B38 (l : Launch) (G : Gx) (v2 : Int32) (M : Mm) : Sim cQi l layM G 6 cX10_days RX10 4 (some .int) 38 [(2, .int v2)] [] M (fX10_days_B38 v2 M) := by
  unfold fX10_days_B38
  refine s_iload_n 0 dX10_days_38 rfl rfl ?_
  exact s_iret rfl dX10_days_39
def fX10_days_L20b (v1 : Int32) (q20 : Int32 → Int32 → Mm → Option (Int32 × Mm)) (v3 : Int32) (v2 : Int32) (M : Mm) : Option (Int32 × Mm) :=
  if v1 ≤ v3 then (fX10_days_B38 v2 M)
  else bd (fX10_day M) fun r5 M6 =>
  lt (v2 + r5) fun x7 =>
  q20 (v3 + 1) x7 M6
def fX10_days_L20 (v1 : Int32) : Nat → Int32 → Int32 → Mm → Option (Int32 × Mm)
  | 0 => fun _ _ _ => none
  | n + 1 => fX10_days_L20b v1 (fX10_days_L20 v1 n)
theorem tX10_days_L20b (l : Launch) (G : Gx) (v1 : Int32) (q20 : Int32 → Int32 → Mm → Option (Int32 × Mm)) (hq20 : ∀ (v3 : Int32) (v2 : Int32) (M : Mm), Sim cQi l layM G 6 cX10_days RX10 4 (some .int) 20 [(3, .int v3), (2, .int v2), (0, rf G 0), (1, .int v1)] [] M (q20 v3 v2 M)) (v3 : Int32) (v2 : Int32) (M : Mm) : Sim cQi l layM G 6 cX10_days RX10 4 (some .int) 20 [(3, .int v3), (2, .int v2), (0, rf G 0), (1, .int v1)] [] M (fX10_days_L20b v1 q20 v3 v2 M) := by
  unfold fX10_days_L20b
  refine s_iload_n 0 dX10_days_20 rfl rfl ?_
  refine s_iload_n 3 dX10_days_21 rfl rfl ?_
  refine s_icmpge (tgt := 38) dX10_days_22 (by decide) ?_ ?_
  · exact s_sub [1] rfl (tX10_days_B38 l G v2 M)
  · refine s_iload_n 1 dX10_days_25 rfl rfl ?_
    refine s_aload_n 2 dX10_days_26 rfl rfl ?_
    refine s_call_i (s_runV (ci := 10) (rest := [.int v2]) rfl rfl (mX10_day l G M) ok_X10_day k_X10_229 rfl rfl rfl rfl dX10_days_27) fun r5 M6 => ?_
    refine s_iadd dX10_days_30 ?_
    refine s_leti fun x7 => ?_
    refine s_istore_n (lv' := [(2, .int x7), (3, .int v3), (0, rf G 0), (1, .int v1)]) dX10_days_31 rfl rfl rfl ?_
    refine s_iinc (k := 1) (lv' := [(3, .int (v3 + 1)), (2, .int x7), (0, rf G 0), (1, .int v1)]) dX10_days_32 rfl ci_1 rfl rfl ?_
    refine s_goto (tgt := 20) dX10_days_35 (by decide) ?_
    exact s_sub [0, 1, 2, 3] rfl (hq20 (v3 + 1) x7 M6)
theorem tX10_days_L20 (l : Launch) (G : Gx) (v1 : Int32) : ∀ (n : Nat) (v3 : Int32) (v2 : Int32) (M : Mm), Sim cQi l layM G 6 cX10_days RX10 4 (some .int) 20 [(3, .int v3), (2, .int v2), (0, rf G 0), (1, .int v1)] [] M (fX10_days_L20 v1 n v3 v2 M)
  | 0, _, _, _ => s_none
  | n + 1, v3, v2, M => tX10_days_L20b l G v1 _ (tX10_days_L20 l G v1 n) v3 v2 M
def fX10_days (a1 : Int32) (M : Mm) : Option (Int32 × Mm) :=
  bd (fX10_in a1 (1 : Int32) (20 : Int32) M) fun r1 M2 =>
  if r1 = true then (fX10_days_L20 a1 FU (0 : Int32) (0 : Int32) M2)
  else bd (fX10_error (1 : Int32) M2) fun r3 M4 =>
  some (r3, M4)
theorem mX10_days (l : Launch) (G : Gx) (a1 : Int32) (M : Mm) : Mt cQi l layM G 6 yX10_days cX10_days 4 (some .int) [rf G 0, .int a1] M (fX10_days a1 M) := by
  refine Mt.of2 (own := RX10) (lv := [(0, rf G 0), (1, .int a1)]) rfl (by decide +kernel) rfl rfl ?_
  unfold fX10_days
  refine s_iload_n 1 dX10_days_0 rfl rfl ?_
  refine s_iconst (v := 1) dX10_days_1 ci_1 ?_
  refine s_bipush (v := 20) dX10_days_2 cb_20 ?_
  refine s_call_z (s_runS (rest := []) (mX10_in l G a1 (1 : Int32) (20 : Int32) M) ok_X10_in k_X10_59 rfl rfl rfl rfl dX10_days_4) fun r1 M2 => ?_
  refine s_ifneB (tgt := 16) dX10_days_7 (by decide) ?_ ?_
  · refine s_iconst (v := 0) dX10_days_16 ci_0 ?_
    refine s_istore_n (lv' := [(2, .int (0 : Int32)), (0, rf G 0), (1, .int a1)]) dX10_days_17 rfl rfl rfl ?_
    refine s_iconst (v := 0) dX10_days_18 ci_0 ?_
    refine s_istore_n (lv' := [(3, .int (0 : Int32)), (2, .int (0 : Int32)), (0, rf G 0), (1, .int a1)]) dX10_days_19 rfl rfl rfl ?_
    exact s_sub [0, 1, 2, 3] rfl (tX10_days_L20 l G a1 FU (0 : Int32) (0 : Int32) M2)
  · refine s_aload_n 0 dX10_days_10 rfl rfl ?_
    refine s_iconst (v := 1) dX10_days_11 ci_1 ?_
    refine s_call_i (s_runV (ci := 10) (rest := []) rfl rfl (mX10_error l G (1 : Int32) M2) ok_X10_error k_X10_75 rfl rfl rfl rfl dX10_days_12) fun r3 M4 => ?_
    exact s_iret rfl dX10_days_15
theorem dX10_seed_0 : decode cX10_seed 0 = .ok (.aload_n 0, 1) := by decide +kernel
theorem dX10_seed_1 : decode cX10_seed 1 = .ok (.getfield 7, 3) := by decide +kernel
theorem dX10_seed_4 : decode cX10_seed 4 = .ok (.bipush 7, 2) := by decide +kernel
theorem dX10_seed_6 : decode cX10_seed 6 = .ok (.iaload, 1) := by decide +kernel
theorem dX10_seed_7 : decode cX10_seed 7 = .ok (.istore_n 2, 1) := by decide +kernel
theorem dX10_seed_8 : decode cX10_seed 8 = .ok (.aload_n 0, 1) := by decide +kernel
theorem dX10_seed_9 : decode cX10_seed 9 = .ok (.getfield 7, 3) := by decide +kernel
theorem dX10_seed_12 : decode cX10_seed 12 = .ok (.bipush 7, 2) := by decide +kernel
theorem dX10_seed_14 : decode cX10_seed 14 = .ok (.iload_n 1, 1) := by decide +kernel
theorem dX10_seed_15 : decode cX10_seed 15 = .ok (.iastore, 1) := by decide +kernel
theorem dX10_seed_16 : decode cX10_seed 16 = .ok (.iload_n 2, 1) := by decide +kernel
theorem dX10_seed_17 : decode cX10_seed 17 = .ok (.ireturn, 1) := by decide +kernel
def fX10_seed (a1 : Int32) (M : Mm) : Option (Int32 × Mm) :=
  lt (M 1 (ix (7 : Int32))) fun x1 =>
  lt (wr M 1 (ix (7 : Int32)) a1) fun M2 =>
  some (x1, M2)
theorem mX10_seed (l : Launch) (G : Gx) (a1 : Int32) (M : Mm) : Mt cQi l layM G 1 yX10_seed cX10_seed 3 (some .int) [rf G 0, .int a1] M (fX10_seed a1 M) := by
  refine Mt.of2 (own := RX10) (lv := [(0, rf G 0), (1, .int a1)]) rfl (by decide +kernel) rfl rfl ?_
  unfold fX10_seed
  refine s_aload_n 0 dX10_seed_0 rfl rfl ?_
  refine g_X10_7 (q := 1) rfl rfl dX10_seed_1 ?_
  refine s_bipush (v := 7) dX10_seed_4 cb_7 ?_
  refine s_iald (n := 626) rfl (by decide) dX10_seed_6 ?_
  refine s_leti fun x1 => ?_
  refine s_istore_n (lv' := [(2, .int x1), (0, rf G 0), (1, .int a1)]) dX10_seed_7 rfl rfl rfl ?_
  refine s_aload_n 1 dX10_seed_8 rfl rfl ?_
  refine g_X10_7 (q := 1) rfl rfl dX10_seed_9 ?_
  refine s_bipush (v := 7) dX10_seed_12 cb_7 ?_
  refine s_iload_n 2 dX10_seed_14 rfl rfl ?_
  refine s_iast (n := 626) rfl (by decide) dX10_seed_15 ?_
  refine s_letM fun M2 => ?_
  refine s_iload_n 0 dX10_seed_16 rfl rfl ?_
  exact s_iret rfl dX10_seed_17
theorem dX10_begins_0 : decode cX10_begins 0 = .ok (.aload_n 0, 1) := by decide +kernel
theorem dX10_begins_1 : decode cX10_begins 1 = .ok (.getfield 232, 3) := by decide +kernel
theorem dX10_begins_4 : decode cX10_begins 4 = .ok (.bipush 30, 2) := by decide +kernel
theorem dX10_begins_6 : decode cX10_begins 6 = .ok (.if_icmp .ge 23, 3) := by decide +kernel
theorem dX10_begins_9 : decode cX10_begins 9 = .ok (.aload_n 0, 1) := by decide +kernel
theorem dX10_begins_10 : decode cX10_begins 10 = .ok (.getfield 43, 3) := by decide +kernel
theorem dX10_begins_13 : decode cX10_begins 13 = .ok (.aload_n 0, 1) := by decide +kernel
theorem dX10_begins_14 : decode cX10_begins 14 = .ok (.getfield 232, 3) := by decide +kernel
theorem dX10_begins_17 : decode cX10_begins 17 = .ok (.iload_n 1, 1) := by decide +kernel
theorem dX10_begins_18 : decode cX10_begins 18 = .ok (.iastore, 1) := by decide +kernel
theorem dX10_begins_19 : decode cX10_begins 19 = .ok (.aload_n 0, 1) := by decide +kernel
theorem dX10_begins_20 : decode cX10_begins 20 = .ok (.dup, 1) := by decide +kernel
theorem dX10_begins_21 : decode cX10_begins 21 = .ok (.getfield 232, 3) := by decide +kernel
theorem dX10_begins_24 : decode cX10_begins 24 = .ok (.iconst 1, 1) := by decide +kernel
theorem dX10_begins_25 : decode cX10_begins 25 = .ok (.iadd, 1) := by decide +kernel
theorem dX10_begins_26 : decode cX10_begins 26 = .ok (.putfield 232, 3) := by decide +kernel
theorem dX10_begins_29 : decode cX10_begins 29 = .ok (.return_, 1) := by decide +kernel
def fX10_begins_B29 (M : Mm) : Option (Unit × Mm) :=
  some ((), M)
theorem tX10_begins_B29 (l : Launch) (G : Gx) (M : Mm) : Sim cQv l layM G 1 cX10_begins RX10 2 none 29 [] [] M (fX10_begins_B29 M) := by
  unfold fX10_begins_B29
  exact s_vret rfl dX10_begins_29
def fX10_begins (a1 : Int32) (M : Mm) : Option (Unit × Mm) :=
  if (30 : Int32) ≤ (M 0 19) then (fX10_begins_B29 M)
  else gd (inb (M 0 19) 30) <|
  lt (wr M 12 (ix (M 0 19)) a1) fun M2 =>
  lt (wr M2 0 19 ((M2 0 19) + (1 : Int32))) fun M3 =>
  fX10_begins_B29 M3
theorem mX10_begins (l : Launch) (G : Gx) (a1 : Int32) (M : Mm) : Mt cQv l layM G 1 yX10_begins cX10_begins 2 none [rf G 0, .int a1] M (fX10_begins a1 M) := by
  refine Mt.of2 (own := RX10) (lv := [(0, rf G 0), (1, .int a1)]) rfl (by decide +kernel) rfl rfl ?_
  unfold fX10_begins
  refine s_aload_n 0 dX10_begins_0 rfl rfl ?_
  refine g_X10_232 rfl dX10_begins_1 ?_
  refine s_bipush (v := 30) dX10_begins_4 cb_30 ?_
  refine s_icmpge (tgt := 29) dX10_begins_6 (by decide) ?_ ?_
  · exact s_sub [] rfl (tX10_begins_B29 l G M)
  · refine s_aload_n 0 dX10_begins_9 rfl rfl ?_
    refine g_X10_43 (q := 12) rfl rfl dX10_begins_10 ?_
    refine s_aload_n 0 dX10_begins_13 rfl rfl ?_
    refine g_X10_232 rfl dX10_begins_14 ?_
    refine s_iload_n 1 dX10_begins_17 rfl rfl ?_
    refine s_gd fun h1 => ?_
    refine s_iast (n := 30) rfl h1 dX10_begins_18 ?_
    refine s_letM fun M2 => ?_
    refine s_aload_n 0 dX10_begins_19 rfl rfl ?_
    refine s_dup dX10_begins_20 rfl ?_
    refine g_X10_232 rfl dX10_begins_21 ?_
    refine s_iconst (v := 1) dX10_begins_24 ci_1 ?_
    refine s_iadd dX10_begins_25 ?_
    refine p_X10_232 rfl dX10_begins_26 ?_
    refine s_letM fun M3 => ?_
    exact s_sub [] rfl (tX10_begins_B29 l G M3)
theorem dX10_above_0 : decode cX10_above 0 = .ok (.iload_n 0, 1) := by decide +kernel
theorem dX10_above_1 : decode cX10_above 1 = .ok (.iconst 3, 1) := by decide +kernel
theorem dX10_above_2 : decode cX10_above 2 = .ok (.if_icmp .ne 7, 3) := by decide +kernel
theorem dX10_above_5 : decode cX10_above 5 = .ok (.iconst 1, 1) := by decide +kernel
theorem dX10_above_6 : decode cX10_above 6 = .ok (.goto 13, 3) := by decide +kernel
theorem dX10_above_9 : decode cX10_above 9 = .ok (.iload_n 0, 1) := by decide +kernel
theorem dX10_above_10 : decode cX10_above 10 = .ok (.iconst 4, 1) := by decide +kernel
theorem dX10_above_11 : decode cX10_above 11 = .ok (.if_icmp .ne 7, 3) := by decide +kernel
theorem dX10_above_14 : decode cX10_above 14 = .ok (.iconst 2, 1) := by decide +kernel
theorem dX10_above_15 : decode cX10_above 15 = .ok (.goto 4, 3) := by decide +kernel
theorem dX10_above_18 : decode cX10_above 18 = .ok (.iconst 0, 1) := by decide +kernel
theorem dX10_above_19 : decode cX10_above 19 = .ok (.ireturn, 1) := by decide +kernel
def fX10_above_B19 (w0 : Int32) (M : Mm) : Option (Int32 × Mm) :=
  some (w0, M)
theorem tX10_above_B19 (l : Launch) (G : Gx) (w0 : Int32) (M : Mm) : Sim cQi l layM G 1 cX10_above RX10 1 (some .int) 19 [] [.int w0] M (fX10_above_B19 w0 M) := by
  unfold fX10_above_B19
  exact s_iret rfl dX10_above_19
def fX10_above (a1 : Int32) (M : Mm) : Option (Int32 × Mm) :=
  if a1 = (3 : Int32) then (fX10_above_B19 (1 : Int32) M)
  else if a1 = (4 : Int32) then (fX10_above_B19 (2 : Int32) M)
  else fX10_above_B19 (0 : Int32) M
theorem mX10_above (l : Launch) (G : Gx) (a1 : Int32) (M : Mm) : Mt cQi l layM G 1 yX10_above cX10_above 1 (some .int) [.int a1] M (fX10_above a1 M) := by
  refine Mt.of2 (own := RX10) (lv := [(0, .int a1)]) rfl (by decide +kernel) rfl rfl ?_
  unfold fX10_above
  refine s_iload_n 0 dX10_above_0 rfl rfl ?_
  refine s_iconst (v := 3) dX10_above_1 ci_3 ?_
  refine s_icmpne (tgt := 9) dX10_above_2 (by decide) ?_ ?_
  · refine s_iload_n 0 dX10_above_9 rfl rfl ?_
    refine s_iconst (v := 4) dX10_above_10 ci_4 ?_
    refine s_icmpne (tgt := 18) dX10_above_11 (by decide) ?_ ?_
    · refine s_iconst (v := 0) dX10_above_18 ci_0 ?_
      exact s_sub [] rfl (tX10_above_B19 l G (0 : Int32) M)
    · refine s_iconst (v := 2) dX10_above_14 ci_2 ?_
      refine s_goto (tgt := 19) dX10_above_15 (by decide) ?_
      exact s_sub [] rfl (tX10_above_B19 l G (2 : Int32) M)
  · refine s_iconst (v := 1) dX10_above_5 ci_1 ?_
    refine s_goto (tgt := 19) dX10_above_6 (by decide) ?_
    exact s_sub [] rfl (tX10_above_B19 l G (1 : Int32) M)
theorem dX10_kindNow_0 : decode cX10_kindNow 0 = .ok (.aload_n 0, 1) := by decide +kernel
theorem dX10_kindNow_1 : decode cX10_kindNow 1 = .ok (.aload_n 0, 1) := by decide +kernel
theorem dX10_kindNow_2 : decode cX10_kindNow 2 = .ok (.getfield 235, 3) := by decide +kernel
theorem dX10_kindNow_5 : decode cX10_kindNow 5 = .ok (.iconst 0, 1) := by decide +kernel
theorem dX10_kindNow_6 : decode cX10_kindNow 6 = .ok (.invokevirtual 137, 3) := by decide +kernel
theorem dX10_kindNow_9 : decode cX10_kindNow 9 = .ok (.ireturn, 1) := by decide +kernel
def fX10_kindNow  (M : Mm) : Option (Int32 × Mm) :=
  bd (fX10_its (M 0 20) (0 : Int32) M) fun r1 M2 =>
  some (r1, M2)
theorem mX10_kindNow (l : Launch) (G : Gx)  (M : Mm) : Mt cQi l layM G 2 yX10_kindNow cX10_kindNow 1 (some .int) [rf G 0] M (fX10_kindNow M) := by
  refine Mt.of2 (own := RX10) (lv := [(0, rf G 0)]) rfl (by decide +kernel) rfl rfl ?_
  unfold fX10_kindNow
  refine s_aload_n 0 dX10_kindNow_0 rfl rfl ?_
  refine s_aload_n 0 dX10_kindNow_1 rfl rfl ?_
  refine g_X10_235 rfl dX10_kindNow_2 ?_
  refine s_iconst (v := 0) dX10_kindNow_5 ci_0 ?_
  refine s_call_i (s_runV (ci := 10) (rest := []) rfl rfl (mX10_its l G (M 0 20) (0 : Int32) M) ok_X10_its k_X10_137 rfl rfl rfl rfl dX10_kindNow_6) fun r1 M2 => ?_
  exact s_iret rfl dX10_kindNow_9
theorem dX10_mNow_0 : decode cX10_mNow 0 = .ok (.aload_n 0, 1) := by decide +kernel
theorem dX10_mNow_1 : decode cX10_mNow 1 = .ok (.aload_n 0, 1) := by decide +kernel
theorem dX10_mNow_2 : decode cX10_mNow 2 = .ok (.getfield 235, 3) := by decide +kernel
theorem dX10_mNow_5 : decode cX10_mNow 5 = .ok (.iconst 1, 1) := by decide +kernel
theorem dX10_mNow_6 : decode cX10_mNow 6 = .ok (.invokevirtual 137, 3) := by decide +kernel
theorem dX10_mNow_9 : decode cX10_mNow 9 = .ok (.ireturn, 1) := by decide +kernel
def fX10_mNow  (M : Mm) : Option (Int32 × Mm) :=
  bd (fX10_its (M 0 20) (1 : Int32) M) fun r1 M2 =>
  some (r1, M2)
theorem mX10_mNow (l : Launch) (G : Gx)  (M : Mm) : Mt cQi l layM G 2 yX10_mNow cX10_mNow 1 (some .int) [rf G 0] M (fX10_mNow M) := by
  refine Mt.of2 (own := RX10) (lv := [(0, rf G 0)]) rfl (by decide +kernel) rfl rfl ?_
  unfold fX10_mNow
  refine s_aload_n 0 dX10_mNow_0 rfl rfl ?_
  refine s_aload_n 0 dX10_mNow_1 rfl rfl ?_
  refine g_X10_235 rfl dX10_mNow_2 ?_
  refine s_iconst (v := 1) dX10_mNow_5 ci_1 ?_
  refine s_call_i (s_runV (ci := 10) (rest := []) rfl rfl (mX10_its l G (M 0 20) (1 : Int32) M) ok_X10_its k_X10_137 rfl rfl rfl rfl dX10_mNow_6) fun r1 M2 => ?_
  exact s_iret rfl dX10_mNow_9
theorem dX10_meltsBy_0 : decode cX10_meltsBy 0 = .ok (.iload_n 1, 1) := by decide +kernel
theorem dX10_meltsBy_1 : decode cX10_meltsBy 1 = .ok (.tableswitch 101 0 6 #[43, 56, 101, 75, 101, 101, 93], 43) := by decide +kernel
theorem dX10_meltsBy_44 : decode cX10_meltsBy 44 = .ok (.aload_n 0, 1) := by decide +kernel
theorem dX10_meltsBy_45 : decode cX10_meltsBy 45 = .ok (.bipush 10, 2) := by decide +kernel
theorem dX10_meltsBy_47 : decode cX10_meltsBy 47 = .ok (.invokevirtual 238, 3) := by decide +kernel
theorem dX10_meltsBy_50 : decode cX10_meltsBy 50 = .ok (.iload_n 2, 1) := by decide +kernel
theorem dX10_meltsBy_51 : decode cX10_meltsBy 51 = .ok (.aload_n 0, 1) := by decide +kernel
theorem dX10_meltsBy_52 : decode cX10_meltsBy 52 = .ok (.getfield 235, 3) := by decide +kernel
theorem dX10_meltsBy_55 : decode cX10_meltsBy 55 = .ok (.iadd, 1) := by decide +kernel
theorem dX10_meltsBy_56 : decode cX10_meltsBy 56 = .ok (.ireturn, 1) := by decide +kernel
theorem dX10_meltsBy_57 : decode cX10_meltsBy 57 = .ok (.aload_n 0, 1) := by decide +kernel
theorem dX10_meltsBy_58 : decode cX10_meltsBy 58 = .ok (.bipush 20, 2) := by decide +kernel
theorem dX10_meltsBy_60 : decode cX10_meltsBy 60 = .ok (.invokevirtual 238, 3) := by decide +kernel
theorem dX10_meltsBy_63 : decode cX10_meltsBy 63 = .ok (.aload_n 0, 1) := by decide +kernel
theorem dX10_meltsBy_64 : decode cX10_meltsBy 64 = .ok (.iconst 1, 1) := by decide +kernel
theorem dX10_meltsBy_65 : decode cX10_meltsBy 65 = .ok (.invokestatic 241, 3) := by decide +kernel
theorem dX10_meltsBy_68 : decode cX10_meltsBy 68 = .ok (.iload_n 2, 1) := by decide +kernel
theorem dX10_meltsBy_69 : decode cX10_meltsBy 69 = .ok (.invokevirtual 244, 3) := by decide +kernel
theorem dX10_meltsBy_72 : decode cX10_meltsBy 72 = .ok (.bipush 6, 2) := by decide +kernel
theorem dX10_meltsBy_74 : decode cX10_meltsBy 74 = .ok (.isub, 1) := by decide +kernel
theorem dX10_meltsBy_75 : decode cX10_meltsBy 75 = .ok (.ireturn, 1) := by decide +kernel
theorem dX10_meltsBy_76 : decode cX10_meltsBy 76 = .ok (.aload_n 0, 1) := by decide +kernel
theorem dX10_meltsBy_77 : decode cX10_meltsBy 77 = .ok (.bipush 40, 2) := by decide +kernel
theorem dX10_meltsBy_79 : decode cX10_meltsBy 79 = .ok (.invokevirtual 238, 3) := by decide +kernel
theorem dX10_meltsBy_82 : decode cX10_meltsBy 82 = .ok (.aload_n 0, 1) := by decide +kernel
theorem dX10_meltsBy_83 : decode cX10_meltsBy 83 = .ok (.iconst 3, 1) := by decide +kernel
theorem dX10_meltsBy_84 : decode cX10_meltsBy 84 = .ok (.invokestatic 241, 3) := by decide +kernel
theorem dX10_meltsBy_87 : decode cX10_meltsBy 87 = .ok (.iload_n 2, 1) := by decide +kernel
theorem dX10_meltsBy_88 : decode cX10_meltsBy 88 = .ok (.invokevirtual 244, 3) := by decide +kernel
theorem dX10_meltsBy_91 : decode cX10_meltsBy 91 = .ok (.iconst 3, 1) := by decide +kernel
theorem dX10_meltsBy_92 : decode cX10_meltsBy 92 = .ok (.imul, 1) := by decide +kernel
theorem dX10_meltsBy_93 : decode cX10_meltsBy 93 = .ok (.ireturn, 1) := by decide +kernel
theorem dX10_meltsBy_94 : decode cX10_meltsBy 94 = .ok (.aload_n 0, 1) := by decide +kernel
theorem dX10_meltsBy_95 : decode cX10_meltsBy 95 = .ok (.bipush 70, 2) := by decide +kernel
theorem dX10_meltsBy_97 : decode cX10_meltsBy 97 = .ok (.invokevirtual 238, 3) := by decide +kernel
theorem dX10_meltsBy_100 : decode cX10_meltsBy 100 = .ok (.iconst 2, 1) := by decide +kernel
theorem dX10_meltsBy_101 : decode cX10_meltsBy 101 = .ok (.ireturn, 1) := by decide +kernel
theorem dX10_meltsBy_102 : decode cX10_meltsBy 102 = .ok (.aload_n 0, 1) := by decide +kernel
theorem dX10_meltsBy_103 : decode cX10_meltsBy 103 = .ok (.iload_n 1, 1) := by decide +kernel
theorem dX10_meltsBy_104 : decode cX10_meltsBy 104 = .ok (.invokestatic 241, 3) := by decide +kernel
theorem dX10_meltsBy_107 : decode cX10_meltsBy 107 = .ok (.iload_n 2, 1) := by decide +kernel
theorem dX10_meltsBy_108 : decode cX10_meltsBy 108 = .ok (.invokevirtual 244, 3) := by decide +kernel
theorem dX10_meltsBy_111 : decode cX10_meltsBy 111 = .ok (.ireturn, 1) := by decide +kernel
def fX10_meltsBy_b (zX10_meltsBy : Int32 → Int32 → Mm → Option (Int32 × Mm)) (a1 : Int32) (a2 : Int32) (M : Mm) : Option (Int32 × Mm) :=
  if a1 = 0 then (bd (fX10_begins (10 : Int32) M) fun r1 M2 =>
  some (a2 + (M2 0 20), M2))
  else if a1 = 1 then (bd (fX10_begins (20 : Int32) M) fun r3 M4 =>
  bd (fX10_above (1 : Int32) M4) fun r5 M6 =>
  bd (zX10_meltsBy r5 a2 M6) fun r7 M8 =>
  some (r7 - (6 : Int32), M8))
  else if a1 = 2 then (bd (fX10_above a1 M) fun r9 M10 =>
  bd (zX10_meltsBy r9 a2 M10) fun r11 M12 =>
  some (r11, M12))
  else if a1 = 3 then (bd (fX10_begins (40 : Int32) M) fun r13 M14 =>
  bd (fX10_above (3 : Int32) M14) fun r15 M16 =>
  bd (zX10_meltsBy r15 a2 M16) fun r17 M18 =>
  some (r17 * (3 : Int32), M18))
  else if a1 = 4 then (bd (fX10_above a1 M) fun r19 M20 =>
  bd (zX10_meltsBy r19 a2 M20) fun r21 M22 =>
  some (r21, M22))
  else if a1 = 5 then (bd (fX10_above a1 M) fun r23 M24 =>
  bd (zX10_meltsBy r23 a2 M24) fun r25 M26 =>
  some (r25, M26))
  else if a1 = 6 then (bd (fX10_begins (70 : Int32) M) fun r27 M28 =>
  some ((2 : Int32), M28))
  else bd (fX10_above a1 M) fun r29 M30 =>
  bd (zX10_meltsBy r29 a2 M30) fun r31 M32 =>
  some (r31, M32)
theorem mX10_meltsBy_b (l : Launch) (G : Gx) (zX10_meltsBy : Int32 → Int32 → Mm → Option (Int32 × Mm)) (lev lev1 : Nat) (hlev : Nat.ble (lev1 + 1) lev = true) (hbase : 2 ≤ lev) (hzX10_meltsBy : ∀ (a1 : Int32) (a2 : Int32) (M : Mm), Mt cQi l layM G lev1 yX10_meltsBy cX10_meltsBy 3 (some .int) [rf G 0, .int a1, .int a2] M (zX10_meltsBy a1 a2 M)) (a1 : Int32) (a2 : Int32) (M : Mm) : Mt cQi l layM G lev yX10_meltsBy cX10_meltsBy 3 (some .int) [rf G 0, .int a1, .int a2] M (fX10_meltsBy_b zX10_meltsBy a1 a2 M) := by
  refine Mt.of2 (own := RX10) (lv := [(0, rf G 0), (1, .int a1), (2, .int a2)]) rfl (by decide +kernel) rfl rfl ?_
  unfold fX10_meltsBy_b
  refine s_iload_n 1 dX10_meltsBy_0 rfl rfl ?_
  refine s_table (tgt := 102) dX10_meltsBy_1 (by decide) (by decide) (by decide) ?_
  refine lk_cons (k := 0) (tgt := 44) (by decide) (by decide) ?_ ?_
  · refine s_aload_n 0 dX10_meltsBy_44 rfl rfl ?_
    refine s_bipush (v := 10) dX10_meltsBy_45 cb_10 ?_
    refine s_call_v (s_runV (ci := 10) (rest := []) rfl rfl (mX10_begins l G (10 : Int32) M) ok_X10_begins k_X10_238 (ble_of hbase rfl) rfl rfl rfl dX10_meltsBy_47) fun r1 M2 => ?_
    refine s_iload_n 2 dX10_meltsBy_50 rfl rfl ?_
    refine s_aload_n 0 dX10_meltsBy_51 rfl rfl ?_
    refine g_X10_235 rfl dX10_meltsBy_52 ?_
    refine s_iadd dX10_meltsBy_55 ?_
    exact s_iret rfl dX10_meltsBy_56
  refine lk_cons (k := 1) (tgt := 57) (by decide) (by decide) ?_ ?_
  · refine s_aload_n 0 dX10_meltsBy_57 rfl rfl ?_
    refine s_bipush (v := 20) dX10_meltsBy_58 cb_20 ?_
    refine s_call_v (s_runV (ci := 10) (rest := []) rfl rfl (mX10_begins l G (20 : Int32) M) ok_X10_begins k_X10_238 (ble_of hbase rfl) rfl rfl rfl dX10_meltsBy_60) fun r3 M4 => ?_
    refine s_aload_n 0 dX10_meltsBy_63 rfl rfl ?_
    refine s_iconst (v := 1) dX10_meltsBy_64 ci_1 ?_
    refine s_call_i (s_runS (rest := [rf G 0]) (mX10_above l G (1 : Int32) M4) ok_X10_above k_X10_241 (ble_of hbase rfl) rfl rfl rfl dX10_meltsBy_65) fun r5 M6 => ?_
    refine s_iload_n 2 dX10_meltsBy_68 rfl rfl ?_
    refine s_call_i (s_runV (ci := 10) (rest := []) rfl rfl (hzX10_meltsBy r5 a2 M6) ok_X10_meltsBy k_X10_244 hlev rfl rfl rfl dX10_meltsBy_69) fun r7 M8 => ?_
    refine s_bipush (v := 6) dX10_meltsBy_72 cb_6 ?_
    refine s_isub dX10_meltsBy_74 ?_
    exact s_iret rfl dX10_meltsBy_75
  refine lk_cons (k := 2) (tgt := 102) (by decide) (by decide) ?_ ?_
  · refine s_aload_n 0 dX10_meltsBy_102 rfl rfl ?_
    refine s_iload_n 1 dX10_meltsBy_103 rfl rfl ?_
    refine s_call_i (s_runS (rest := [rf G 0]) (mX10_above l G a1 M) ok_X10_above k_X10_241 (ble_of hbase rfl) rfl rfl rfl dX10_meltsBy_104) fun r9 M10 => ?_
    refine s_iload_n 2 dX10_meltsBy_107 rfl rfl ?_
    refine s_call_i (s_runV (ci := 10) (rest := []) rfl rfl (hzX10_meltsBy r9 a2 M10) ok_X10_meltsBy k_X10_244 hlev rfl rfl rfl dX10_meltsBy_108) fun r11 M12 => ?_
    exact s_iret rfl dX10_meltsBy_111
  refine lk_cons (k := 3) (tgt := 76) (by decide) (by decide) ?_ ?_
  · refine s_aload_n 0 dX10_meltsBy_76 rfl rfl ?_
    refine s_bipush (v := 40) dX10_meltsBy_77 cb_40 ?_
    refine s_call_v (s_runV (ci := 10) (rest := []) rfl rfl (mX10_begins l G (40 : Int32) M) ok_X10_begins k_X10_238 (ble_of hbase rfl) rfl rfl rfl dX10_meltsBy_79) fun r13 M14 => ?_
    refine s_aload_n 0 dX10_meltsBy_82 rfl rfl ?_
    refine s_iconst (v := 3) dX10_meltsBy_83 ci_3 ?_
    refine s_call_i (s_runS (rest := [rf G 0]) (mX10_above l G (3 : Int32) M14) ok_X10_above k_X10_241 (ble_of hbase rfl) rfl rfl rfl dX10_meltsBy_84) fun r15 M16 => ?_
    refine s_iload_n 2 dX10_meltsBy_87 rfl rfl ?_
    refine s_call_i (s_runV (ci := 10) (rest := []) rfl rfl (hzX10_meltsBy r15 a2 M16) ok_X10_meltsBy k_X10_244 hlev rfl rfl rfl dX10_meltsBy_88) fun r17 M18 => ?_
    refine s_iconst (v := 3) dX10_meltsBy_91 ci_3 ?_
    refine s_imul dX10_meltsBy_92 ?_
    exact s_iret rfl dX10_meltsBy_93
  refine lk_cons (k := 4) (tgt := 102) (by decide) (by decide) ?_ ?_
  · refine s_aload_n 0 dX10_meltsBy_102 rfl rfl ?_
    refine s_iload_n 1 dX10_meltsBy_103 rfl rfl ?_
    refine s_call_i (s_runS (rest := [rf G 0]) (mX10_above l G a1 M) ok_X10_above k_X10_241 (ble_of hbase rfl) rfl rfl rfl dX10_meltsBy_104) fun r19 M20 => ?_
    refine s_iload_n 2 dX10_meltsBy_107 rfl rfl ?_
    refine s_call_i (s_runV (ci := 10) (rest := []) rfl rfl (hzX10_meltsBy r19 a2 M20) ok_X10_meltsBy k_X10_244 hlev rfl rfl rfl dX10_meltsBy_108) fun r21 M22 => ?_
    exact s_iret rfl dX10_meltsBy_111
  refine lk_cons (k := 5) (tgt := 102) (by decide) (by decide) ?_ ?_
  · refine s_aload_n 0 dX10_meltsBy_102 rfl rfl ?_
    refine s_iload_n 1 dX10_meltsBy_103 rfl rfl ?_
    refine s_call_i (s_runS (rest := [rf G 0]) (mX10_above l G a1 M) ok_X10_above k_X10_241 (ble_of hbase rfl) rfl rfl rfl dX10_meltsBy_104) fun r23 M24 => ?_
    refine s_iload_n 2 dX10_meltsBy_107 rfl rfl ?_
    refine s_call_i (s_runV (ci := 10) (rest := []) rfl rfl (hzX10_meltsBy r23 a2 M24) ok_X10_meltsBy k_X10_244 hlev rfl rfl rfl dX10_meltsBy_108) fun r25 M26 => ?_
    exact s_iret rfl dX10_meltsBy_111
  refine lk_cons (k := 6) (tgt := 94) (by decide) (by decide) ?_ ?_
  · refine s_aload_n 0 dX10_meltsBy_94 rfl rfl ?_
    refine s_bipush (v := 70) dX10_meltsBy_95 cb_70 ?_
    refine s_call_v (s_runV (ci := 10) (rest := []) rfl rfl (mX10_begins l G (70 : Int32) M) ok_X10_begins k_X10_238 (ble_of hbase rfl) rfl rfl rfl dX10_meltsBy_97) fun r27 M28 => ?_
    refine s_iconst (v := 2) dX10_meltsBy_100 ci_2 ?_
    exact s_iret rfl dX10_meltsBy_101
  refine lk_nil (tgt := 102) (by decide) ?_
  refine s_aload_n 0 dX10_meltsBy_102 rfl rfl ?_
  refine s_iload_n 1 dX10_meltsBy_103 rfl rfl ?_
  refine s_call_i (s_runS (rest := [rf G 0]) (mX10_above l G a1 M) ok_X10_above k_X10_241 (ble_of hbase rfl) rfl rfl rfl dX10_meltsBy_104) fun r29 M30 => ?_
  refine s_iload_n 2 dX10_meltsBy_107 rfl rfl ?_
  refine s_call_i (s_runV (ci := 10) (rest := []) rfl rfl (hzX10_meltsBy r29 a2 M30) ok_X10_meltsBy k_X10_244 hlev rfl rfl rfl dX10_meltsBy_108) fun r31 M32 => ?_
  exact s_iret rfl dX10_meltsBy_111
def grX10_meltsBy : Nat → (Int32 → Int32 → Mm → Option (Int32 × Mm))
  | 0 => (fun _ _ _ => none)
  | d + 1 => (fX10_meltsBy_b ((grX10_meltsBy d)))
def fX10_meltsBy (d : Nat) : Int32 → Int32 → Mm → Option (Int32 × Mm) := (grX10_meltsBy d)
theorem mgX10_meltsBy (l : Launch) (G : Gx) : ∀ d : Nat, (∀ (a1 : Int32) (a2 : Int32) (M : Mm), Mt cQi l layM G (2 + d) yX10_meltsBy cX10_meltsBy 3 (some .int) [rf G 0, .int a1, .int a2] M (fX10_meltsBy d a1 a2 M))
  | 0 => fun _ _ _ => Mt.none
  | d + 1 => fun a1 a2 M => mX10_meltsBy_b l G (fX10_meltsBy d) (2 + (d + 1)) (2 + d) (Nat.ble_eq.mpr (Nat.le_refl _)) (Nat.le_add_right _ _) ((mgX10_meltsBy l G d)) a1 a2 M
theorem mX10_meltsBy (l : Launch) (G : Gx) (d : Nat) (a1 : Int32) (a2 : Int32) (M : Mm) : Mt cQi l layM G (2 + d) yX10_meltsBy cX10_meltsBy 3 (some .int) [rf G 0, .int a1, .int a2] M (fX10_meltsBy d a1 a2 M) := (mgX10_meltsBy l G d) a1 a2 M
