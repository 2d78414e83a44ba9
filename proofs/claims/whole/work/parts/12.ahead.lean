theorem dX0_startPage_0 : decode cX0_startPage 0 = .ok (.aload_n 0, 1) := by decide +kernel
theorem dX0_startPage_1 : decode cX0_startPage 1 = .ok (.aload_n 0, 1) := by decide +kernel
theorem dX0_startPage_2 : decode cX0_startPage 2 = .ok (.getfield 17, 3) := by decide +kernel
theorem dX0_startPage_5 : decode cX0_startPage 5 = .ok (.getfield 22, 3) := by decide +kernel
theorem dX0_startPage_8 : decode cX0_startPage 8 = .ok (.iload_n 1, 1) := by decide +kernel
theorem dX0_startPage_9 : decode cX0_startPage 9 = .ok (.aaload, 1) := by decide +kernel
theorem dX0_startPage_10 : decode cX0_startPage 10 = .ok (.getfield 28, 3) := by decide +kernel
theorem dX0_startPage_13 : decode cX0_startPage 13 = .ok (.bipush 8, 2) := by decide +kernel
theorem dX0_startPage_15 : decode cX0_startPage 15 = .ok (.invokestatic 34, 3) := by decide +kernel
theorem dX0_startPage_18 : decode cX0_startPage 18 = .ok (.putfield 40, 3) := by decide +kernel
theorem dX0_startPage_21 : decode cX0_startPage 21 = .ok (.aload_n 0, 1) := by decide +kernel
theorem dX0_startPage_22 : decode cX0_startPage 22 = .ok (.aload_n 0, 1) := by decide +kernel
theorem dX0_startPage_23 : decode cX0_startPage 23 = .ok (.getfield 17, 3) := by decide +kernel
theorem dX0_startPage_26 : decode cX0_startPage 26 = .ok (.getfield 41, 3) := by decide +kernel
theorem dX0_startPage_29 : decode cX0_startPage 29 = .ok (.iload_n 1, 1) := by decide +kernel
theorem dX0_startPage_30 : decode cX0_startPage 30 = .ok (.iaload, 1) := by decide +kernel
theorem dX0_startPage_31 : decode cX0_startPage 31 = .ok (.putfield 45, 3) := by decide +kernel
theorem dX0_startPage_34 : decode cX0_startPage 34 = .ok (.iconst 0, 1) := by decide +kernel
theorem dX0_startPage_35 : decode cX0_startPage 35 = .ok (.istore_n 2, 1) := by decide +kernel
theorem dX0_startPage_36 : decode cX0_startPage 36 = .ok (.iload_n 2, 1) := by decide +kernel
theorem dX0_startPage_37 : decode cX0_startPage 37 = .ok (.aload_n 0, 1) := by decide +kernel
theorem dX0_startPage_38 : decode cX0_startPage 38 = .ok (.getfield 40, 3) := by decide +kernel
theorem dX0_startPage_41 : decode cX0_startPage 41 = .ok (.if_icmp .ge 27, 3) := by decide +kernel
theorem dX0_startPage_44 : decode cX0_startPage 44 = .ok (.aload_n 0, 1) := by decide +kernel
theorem dX0_startPage_45 : decode cX0_startPage 45 = .ok (.getfield 11, 3) := by decide +kernel
theorem dX0_startPage_48 : decode cX0_startPage 48 = .ok (.iload_n 2, 1) := by decide +kernel
theorem dX0_startPage_49 : decode cX0_startPage 49 = .ok (.aaload, 1) := by decide +kernel
theorem dX0_startPage_50 : decode cX0_startPage 50 = .ok (.aload_n 0, 1) := by decide +kernel
theorem dX0_startPage_51 : decode cX0_startPage 51 = .ok (.getfield 17, 3) := by decide +kernel
theorem dX0_startPage_54 : decode cX0_startPage 54 = .ok (.iload_n 1, 1) := by decide +kernel
theorem dX0_startPage_55 : decode cX0_startPage 55 = .ok (.iload_n 2, 1) := by decide +kernel
theorem dX0_startPage_56 : decode cX0_startPage 56 = .ok (.invokevirtual 47, 3) := by decide +kernel
theorem dX0_startPage_59 : decode cX0_startPage 59 = .ok (.invokevirtual 51, 3) := by decide +kernel
theorem dX0_startPage_62 : decode cX0_startPage 62 = .ok (.iinc 2 1, 3) := by decide +kernel
theorem dX0_startPage_65 : decode cX0_startPage 65 = .ok (.goto (-29), 3) := by decide +kernel
theorem dX0_startPage_68 : decode cX0_startPage 68 = .ok (.return_, 1) := by decide +kernel
def fX0_startPage_B68 (M : Mm) : Option (Unit × Mm) :=
  some ((), M)
theorem tX0_startPage_B68 (l : Launch) (G : Gx) (M : Mm) : Sim cQv l layC G 4 cX0_startPage RX0 3 none 68 [] [] M (fX0_startPage_B68 M) := by
  unfold fX0_startPage_B68
  exact s_vret rfl dX0_startPage_68
def fX0_startPage_L36b (v1 : Int32) (q36 : Int32 → Mm → Option (Unit × Mm)) (v2 : Int32) (M : Mm) : Option (Unit × Mm) :=
  if (M 136 2) ≤ v2 then (fX0_startPage_B68 M)
  else gd (inb v2 8) <|
  bd (fX7_letterIn v1 v2 M) fun r6 M7 =>
  gd (isC layC (138 + 1 * ix v2) 3) <|
  bd (fX3_takeFrom (138 + 1 * ix v2) r6 M7) fun r9 M10 =>
  q36 (v2 + 1) M10
def fX0_startPage_L36 (v1 : Int32) : Nat → Int32 → Mm → Option (Unit × Mm)
  | 0 => fun _ _ => none
  | n + 1 => fX0_startPage_L36b v1 (fX0_startPage_L36 v1 n)
theorem tX0_startPage_L36b (l : Launch) (G : Gx) (v1 : Int32) (q36 : Int32 → Mm → Option (Unit × Mm)) (hq36 : ∀ (v2 : Int32) (M : Mm), Sim cQv l layC G 4 cX0_startPage RX0 3 none 36 [(2, .int v2), (0, rf G 136), (1, .int v1)] [] M (q36 v2 M)) (v2 : Int32) (M : Mm) : Sim cQv l layC G 4 cX0_startPage RX0 3 none 36 [(2, .int v2), (0, rf G 136), (1, .int v1)] [] M (fX0_startPage_L36b v1 q36 v2 M) := by
  unfold fX0_startPage_L36b
  refine s_iload_n 0 dX0_startPage_36 rfl rfl ?_
  refine s_aload_n 1 dX0_startPage_37 rfl rfl ?_
  refine g_X0_40 rfl dX0_startPage_38 ?_
  refine s_icmpge (tgt := 68) dX0_startPage_41 (by decide) ?_ ?_
  · exact s_sub [] rfl (tX0_startPage_B68 l G M)
  · refine s_aload_n 1 dX0_startPage_44 rfl rfl ?_
    refine g_X0_11 (q := 137) rfl rfl dX0_startPage_45 ?_
    refine s_iload_n 0 dX0_startPage_48 rfl rfl ?_
    refine s_gd fun h5 => ?_
    refine s_aald (t := 1) (bs := 138) (sd := 1) (n := 8) rfl rfl h5 dX0_startPage_49 ?_
    refine s_aload_n 1 dX0_startPage_50 rfl rfl ?_
    refine g_X0_17 (q := 0) rfl rfl dX0_startPage_51 ?_
    refine s_iload_n 2 dX0_startPage_54 rfl rfl ?_
    refine s_iload_n 0 dX0_startPage_55 rfl rfl ?_
    refine s_call_r (s_runV (ci := 7) (rest := [rf G (138 + 1 * ix v2)]) rfl rfl (mX7_letterIn l G v1 v2 M) ok_X7_letterIn k_X0_47 rfl rfl rfl rfl dX0_startPage_56) fun r6 M7 => ?_
    refine s_gd fun h8 => ?_
    refine s_call_v (s_runV (ci := 3) (rest := []) h8 rfl (mX3_takeFrom l G (138 + 1 * ix v2) r6 M7) ok_X3_takeFrom k_X0_51 rfl rfl rfl rfl dX0_startPage_59) fun r9 M10 => ?_
    refine s_iinc (k := 0) (lv' := [(2, .int (v2 + 1)), (0, rf G 136), (1, .int v1)]) dX0_startPage_62 rfl ci_1 rfl rfl ?_
    refine s_goto (tgt := 36) dX0_startPage_65 (by decide) ?_
    exact s_sub [0, 1, 2] rfl (hq36 (v2 + 1) M10)
theorem tX0_startPage_L36 (l : Launch) (G : Gx) (v1 : Int32) : ∀ (n : Nat) (v2 : Int32) (M : Mm), Sim cQv l layC G 4 cX0_startPage RX0 3 none 36 [(2, .int v2), (0, rf G 136), (1, .int v1)] [] M (fX0_startPage_L36 v1 n v2 M)
  | 0, _, _ => s_none
  | n + 1, v2, M => tX0_startPage_L36b l G v1 _ (tX0_startPage_L36 l G v1 n) v2 M
def fX0_startPage (a1 : Int32) (M : Mm) : Option (Unit × Mm) :=
  gd (inb a1 4) <|
  gd (isC layC (29 + 2 * ix a1) 5) <|
  lt (wr M 136 2 (if (8 : Int32) < (M (29 + 2 * ix a1) 1) then (8 : Int32) else (M (29 + 2 * ix a1) 1))) fun M3 =>
  lt (wr M3 136 3 (M3 2 (ix a1))) fun M4 =>
  fX0_startPage_L36 a1 FU (0 : Int32) M4
theorem mX0_startPage (l : Launch) (G : Gx) (a1 : Int32) (M : Mm) : Mt cQv l layC G 4 yX0_startPage cX0_startPage 3 none [rf G 136, .int a1] M (fX0_startPage a1 M) := by
  refine Mt.of2 (own := RX0) (lv := [(0, rf G 136), (1, .int a1)]) rfl (by decide +kernel) rfl rfl ?_
  unfold fX0_startPage
  refine s_aload_n 0 dX0_startPage_0 rfl rfl ?_
  refine s_aload_n 0 dX0_startPage_1 rfl rfl ?_
  refine g_X0_17 (q := 0) rfl rfl dX0_startPage_2 ?_
  refine g_X0_22 (q := 28) rfl rfl dX0_startPage_5 ?_
  refine s_iload_n 1 dX0_startPage_8 rfl rfl ?_
  refine s_gd fun h1 => ?_
  refine s_aald (t := 2) (bs := 29) (sd := 2) (n := 4) rfl rfl h1 dX0_startPage_9 ?_
  refine s_gd fun h2 => ?_
  refine g_X0_28 h2 dX0_startPage_10 ?_
  refine s_bipush (v := 8) dX0_startPage_13 cb_8 ?_
  refine s_min rfl rfl q_748 q_411 q_64 q_412 dX0_startPage_15 ?_
  refine p_X0_40 rfl dX0_startPage_18 ?_
  refine s_letM fun M3 => ?_
  refine s_aload_n 0 dX0_startPage_21 rfl rfl ?_
  refine s_aload_n 0 dX0_startPage_22 rfl rfl ?_
  refine g_X0_17 (q := 0) rfl rfl dX0_startPage_23 ?_
  refine g_X0_41 (q := 2) rfl rfl dX0_startPage_26 ?_
  refine s_iload_n 1 dX0_startPage_29 rfl rfl ?_
  refine s_iald (n := 4) rfl h1 dX0_startPage_30 ?_
  refine p_X0_45 rfl dX0_startPage_31 ?_
  refine s_letM fun M4 => ?_
  refine s_iconst (v := 0) dX0_startPage_34 ci_0 ?_
  refine s_istore_n (lv' := [(2, .int (0 : Int32)), (0, rf G 136), (1, .int a1)]) dX0_startPage_35 rfl rfl rfl ?_
  exact s_sub [0, 1, 2] rfl (tX0_startPage_L36 l G a1 FU (0 : Int32) M4)
theorem dX0_startLetter_0 : decode cX0_startLetter 0 = .ok (.aload_n 0, 1) := by decide +kernel
theorem dX0_startLetter_1 : decode cX0_startLetter 1 = .ok (.iconst 1, 1) := by decide +kernel
theorem dX0_startLetter_2 : decode cX0_startLetter 2 = .ok (.putfield 40, 3) := by decide +kernel
theorem dX0_startLetter_5 : decode cX0_startLetter 5 = .ok (.aload_n 0, 1) := by decide +kernel
theorem dX0_startLetter_6 : decode cX0_startLetter 6 = .ok (.aload_n 0, 1) := by decide +kernel
theorem dX0_startLetter_7 : decode cX0_startLetter 7 = .ok (.getfield 17, 3) := by decide +kernel
theorem dX0_startLetter_10 : decode cX0_startLetter 10 = .ok (.aload_n 1, 1) := by decide +kernel
theorem dX0_startLetter_11 : decode cX0_startLetter 11 = .ok (.invokevirtual 55, 3) := by decide +kernel
theorem dX0_startLetter_14 : decode cX0_startLetter 14 = .ok (.putfield 45, 3) := by decide +kernel
theorem dX0_startLetter_17 : decode cX0_startLetter 17 = .ok (.aload_n 0, 1) := by decide +kernel
theorem dX0_startLetter_18 : decode cX0_startLetter 18 = .ok (.getfield 11, 3) := by decide +kernel
theorem dX0_startLetter_21 : decode cX0_startLetter 21 = .ok (.iconst 0, 1) := by decide +kernel
theorem dX0_startLetter_22 : decode cX0_startLetter 22 = .ok (.aaload, 1) := by decide +kernel
theorem dX0_startLetter_23 : decode cX0_startLetter 23 = .ok (.aload_n 1, 1) := by decide +kernel
theorem dX0_startLetter_24 : decode cX0_startLetter 24 = .ok (.invokevirtual 51, 3) := by decide +kernel
theorem dX0_startLetter_27 : decode cX0_startLetter 27 = .ok (.return_, 1) := by decide +kernel
def fX0_startLetter (a1 : Nat) (M : Mm) : Option (Unit × Mm) :=
  lt (wr M 136 2 (1 : Int32)) fun M1 =>
  bd (fX7_sheetsAround a1 M1) fun r2 M3 =>
  lt (wr M3 136 3 r2) fun M4 =>
  gd (inb (0 : Int32) 8) <|
  gd (isC layC (138 + 1 * ix (0 : Int32)) 3) <|
  bd (fX3_takeFrom (138 + 1 * ix (0 : Int32)) a1 M4) fun r7 M8 =>
  some ((), M8)
theorem mX0_startLetter (l : Launch) (G : Gx) (a1 : Nat) (M : Mm) : Mt cQv l layC G 4 yX0_startLetter cX0_startLetter 2 none [rf G 136, rf G a1] M (fX0_startLetter a1 M) := by
  refine Mt.of2 (own := RX0) (lv := [(0, rf G 136), (1, rf G a1)]) rfl (by decide +kernel) rfl rfl ?_
  unfold fX0_startLetter
  refine s_aload_n 0 dX0_startLetter_0 rfl rfl ?_
  refine s_iconst (v := 1) dX0_startLetter_1 ci_1 ?_
  refine p_X0_40 rfl dX0_startLetter_2 ?_
  refine s_letM fun M1 => ?_
  refine s_aload_n 0 dX0_startLetter_5 rfl rfl ?_
  refine s_aload_n 0 dX0_startLetter_6 rfl rfl ?_
  refine g_X0_17 (q := 0) rfl rfl dX0_startLetter_7 ?_
  refine s_aload_n 1 dX0_startLetter_10 rfl rfl ?_
  refine s_call_i (s_runV (ci := 7) (rest := [rf G 136]) rfl rfl (mX7_sheetsAround l G a1 M1) ok_X7_sheetsAround k_X0_55 rfl rfl rfl rfl dX0_startLetter_11) fun r2 M3 => ?_
  refine p_X0_45 rfl dX0_startLetter_14 ?_
  refine s_letM fun M4 => ?_
  refine s_aload_n 0 dX0_startLetter_17 rfl rfl ?_
  refine g_X0_11 (q := 137) rfl rfl dX0_startLetter_18 ?_
  refine s_iconst (v := 0) dX0_startLetter_21 ci_0 ?_
  refine s_gd fun h5 => ?_
  refine s_aald (t := 1) (bs := 138) (sd := 1) (n := 8) rfl rfl h5 dX0_startLetter_22 ?_
  refine s_aload_n 1 dX0_startLetter_23 rfl rfl ?_
  refine s_gd fun h6 => ?_
  refine s_call_v (s_runV (ci := 3) (rest := []) h6 rfl (mX3_takeFrom l G (138 + 1 * ix (0 : Int32)) a1 M4) ok_X3_takeFrom k_X0_51 rfl rfl rfl rfl dX0_startLetter_24) fun r7 M8 => ?_
  exact s_vret rfl dX0_startLetter_27
theorem dX0_bringTo_0 : decode cX0_bringTo 0 = .ok (.iconst 0, 1) := by decide +kernel
theorem dX0_bringTo_1 : decode cX0_bringTo 1 = .ok (.istore_n 2, 1) := by decide +kernel
theorem dX0_bringTo_2 : decode cX0_bringTo 2 = .ok (.iload_n 2, 1) := by decide +kernel
theorem dX0_bringTo_3 : decode cX0_bringTo 3 = .ok (.aload_n 0, 1) := by decide +kernel
theorem dX0_bringTo_4 : decode cX0_bringTo 4 = .ok (.getfield 40, 3) := by decide +kernel
theorem dX0_bringTo_7 : decode cX0_bringTo 7 = .ok (.if_icmp .ge 19, 3) := by decide +kernel
theorem dX0_bringTo_10 : decode cX0_bringTo 10 = .ok (.aload_n 0, 1) := by decide +kernel
theorem dX0_bringTo_11 : decode cX0_bringTo 11 = .ok (.getfield 11, 3) := by decide +kernel
theorem dX0_bringTo_14 : decode cX0_bringTo 14 = .ok (.iload_n 2, 1) := by decide +kernel
theorem dX0_bringTo_15 : decode cX0_bringTo 15 = .ok (.aaload, 1) := by decide +kernel
theorem dX0_bringTo_16 : decode cX0_bringTo 16 = .ok (.iload_n 1, 1) := by decide +kernel
theorem dX0_bringTo_17 : decode cX0_bringTo 17 = .ok (.putfield 59, 3) := by decide +kernel
theorem dX0_bringTo_20 : decode cX0_bringTo 20 = .ok (.iinc 2 1, 3) := by decide +kernel
theorem dX0_bringTo_23 : decode cX0_bringTo 23 = .ok (.goto (-21), 3) := by decide +kernel
theorem dX0_bringTo_26 : decode cX0_bringTo 26 = .ok (.return_, 1) := by decide +kernel
def fX0_bringTo_B26 (M : Mm) : Option (Unit × Mm) :=
  some ((), M)
theorem tX0_bringTo_B26 (l : Launch) (G : Gx) (M : Mm) : Sim cQv l layC G 1 cX0_bringTo RX0 3 none 26 [] [] M (fX0_bringTo_B26 M) := by
  unfold fX0_bringTo_B26
  exact s_vret rfl dX0_bringTo_26
def fX0_bringTo_L2b (v1 : Int32) (q2 : Int32 → Mm → Option (Unit × Mm)) (v2 : Int32) (M : Mm) : Option (Unit × Mm) :=
  if (M 136 2) ≤ v2 then (fX0_bringTo_B26 M)
  else gd (inb v2 8) <|
  gd (isC layC (138 + 1 * ix v2) 3) <|
  lt (wr M (138 + 1 * ix v2) 4 v1) fun M3 =>
  q2 (v2 + 1) M3
def fX0_bringTo_L2 (v1 : Int32) : Nat → Int32 → Mm → Option (Unit × Mm)
  | 0 => fun _ _ => none
  | n + 1 => fX0_bringTo_L2b v1 (fX0_bringTo_L2 v1 n)
theorem tX0_bringTo_L2b (l : Launch) (G : Gx) (v1 : Int32) (q2 : Int32 → Mm → Option (Unit × Mm)) (hq2 : ∀ (v2 : Int32) (M : Mm), Sim cQv l layC G 1 cX0_bringTo RX0 3 none 2 [(2, .int v2), (0, rf G 136), (1, .int v1)] [] M (q2 v2 M)) (v2 : Int32) (M : Mm) : Sim cQv l layC G 1 cX0_bringTo RX0 3 none 2 [(2, .int v2), (0, rf G 136), (1, .int v1)] [] M (fX0_bringTo_L2b v1 q2 v2 M) := by
  unfold fX0_bringTo_L2b
  refine s_iload_n 0 dX0_bringTo_2 rfl rfl ?_
  refine s_aload_n 1 dX0_bringTo_3 rfl rfl ?_
  refine g_X0_40 rfl dX0_bringTo_4 ?_
  refine s_icmpge (tgt := 26) dX0_bringTo_7 (by decide) ?_ ?_
  · exact s_sub [] rfl (tX0_bringTo_B26 l G M)
  · refine s_aload_n 1 dX0_bringTo_10 rfl rfl ?_
    refine g_X0_11 (q := 137) rfl rfl dX0_bringTo_11 ?_
    refine s_iload_n 0 dX0_bringTo_14 rfl rfl ?_
    refine s_gd fun h1 => ?_
    refine s_aald (t := 1) (bs := 138) (sd := 1) (n := 8) rfl rfl h1 dX0_bringTo_15 ?_
    refine s_iload_n 2 dX0_bringTo_16 rfl rfl ?_
    refine s_gd fun h2 => ?_
    refine p_X0_59 h2 dX0_bringTo_17 ?_
    refine s_letM fun M3 => ?_
    refine s_iinc (k := 0) (lv' := [(2, .int (v2 + 1)), (0, rf G 136), (1, .int v1)]) dX0_bringTo_20 rfl ci_1 rfl rfl ?_
    refine s_goto (tgt := 2) dX0_bringTo_23 (by decide) ?_
    exact s_sub [0, 1, 2] rfl (hq2 (v2 + 1) M3)
theorem tX0_bringTo_L2 (l : Launch) (G : Gx) (v1 : Int32) : ∀ (n : Nat) (v2 : Int32) (M : Mm), Sim cQv l layC G 1 cX0_bringTo RX0 3 none 2 [(2, .int v2), (0, rf G 136), (1, .int v1)] [] M (fX0_bringTo_L2 v1 n v2 M)
  | 0, _, _ => s_none
  | n + 1, v2, M => tX0_bringTo_L2b l G v1 _ (tX0_bringTo_L2 l G v1 n) v2 M
def fX0_bringTo (a1 : Int32) (M : Mm) : Option (Unit × Mm) :=
  fX0_bringTo_L2 a1 FU (0 : Int32) M
theorem mX0_bringTo (l : Launch) (G : Gx) (a1 : Int32) (M : Mm) : Mt cQv l layC G 1 yX0_bringTo cX0_bringTo 3 none [rf G 136, .int a1] M (fX0_bringTo a1 M) := by
  refine Mt.of2 (own := RX0) (lv := [(0, rf G 136), (1, .int a1)]) rfl (by decide +kernel) rfl rfl ?_
  unfold fX0_bringTo
  refine s_iconst (v := 0) dX0_bringTo_0 ci_0 ?_
  refine s_istore_n (lv' := [(2, .int (0 : Int32)), (0, rf G 136), (1, .int a1)]) dX0_bringTo_1 rfl rfl rfl ?_
  exact s_sub [0, 1, 2] rfl (tX0_bringTo_L2 l G a1 FU (0 : Int32) M)
theorem dX0_seen_0 : decode cX0_seen 0 = .ok (.bipush 9, 2) := by decide +kernel
theorem dX0_seen_2 : decode cX0_seen 2 = .ok (.istore_n 1, 1) := by decide +kernel
theorem dX0_seen_3 : decode cX0_seen 3 = .ok (.iconst 0, 1) := by decide +kernel
theorem dX0_seen_4 : decode cX0_seen 4 = .ok (.istore_n 2, 1) := by decide +kernel
theorem dX0_seen_5 : decode cX0_seen 5 = .ok (.iload_n 2, 1) := by decide +kernel
theorem dX0_seen_6 : decode cX0_seen 6 = .ok (.aload_n 0, 1) := by decide +kernel
theorem dX0_seen_7 : decode cX0_seen 7 = .ok (.getfield 40, 3) := by decide +kernel
theorem dX0_seen_10 : decode cX0_seen 10 = .ok (.if_icmp .ge 31, 3) := by decide +kernel
theorem dX0_seen_13 : decode cX0_seen 13 = .ok (.iload_n 1, 1) := by decide +kernel
theorem dX0_seen_14 : decode cX0_seen 14 = .ok (.aload_n 0, 1) := by decide +kernel
theorem dX0_seen_15 : decode cX0_seen 15 = .ok (.getfield 17, 3) := by decide +kernel
theorem dX0_seen_18 : decode cX0_seen 18 = .ok (.aload_n 0, 1) := by decide +kernel
theorem dX0_seen_19 : decode cX0_seen 19 = .ok (.getfield 11, 3) := by decide +kernel
theorem dX0_seen_22 : decode cX0_seen 22 = .ok (.iload_n 2, 1) := by decide +kernel
theorem dX0_seen_23 : decode cX0_seen 23 = .ok (.aaload, 1) := by decide +kernel
theorem dX0_seen_24 : decode cX0_seen 24 = .ok (.aload_n 0, 1) := by decide +kernel
theorem dX0_seen_25 : decode cX0_seen 25 = .ok (.getfield 45, 3) := by decide +kernel
theorem dX0_seen_28 : decode cX0_seen 28 = .ok (.invokevirtual 62, 3) := by decide +kernel
theorem dX0_seen_31 : decode cX0_seen 31 = .ok (.invokestatic 34, 3) := by decide +kernel
theorem dX0_seen_34 : decode cX0_seen 34 = .ok (.istore_n 1, 1) := by decide +kernel
theorem dX0_seen_35 : decode cX0_seen 35 = .ok (.iinc 2 1, 3) := by decide +kernel
theorem dX0_seen_38 : decode cX0_seen 38 = .ok (.goto (-33), 3) := by decide +kernel
theorem dX0_seen_41 : decode cX0_seen 41 = .ok (.iload_n 1, 1) := by decide +kernel
theorem dX0_seen_42 : decode cX0_seen 42 = .ok (.ireturn, 1) := by decide +kernel
def fX0_seen_B41 (v1 : Int32) (M : Mm) : Option (Int32 × Mm) :=
  some (v1, M)
theorem tX0_seen_B41 (l : Launch) (G : Gx) (v1 : Int32) (M : Mm) : Sim cQi l layC G 4 cX0_seen RX0 3 (some .int) 41 [(1, .int v1)] [] M (fX0_seen_B41 v1 M) := by
  unfold fX0_seen_B41
  refine s_iload_n 0 dX0_seen_41 rfl rfl ?_
  exact s_iret rfl dX0_seen_42
def fX0_seen_L5b (q5 : Int32 → Int32 → Mm → Option (Int32 × Mm)) (v2 : Int32) (v1 : Int32) (M : Mm) : Option (Int32 × Mm) :=
  if (M 136 2) ≤ v2 then (fX0_seen_B41 v1 M)
  else gd (inb v2 8) <|
  bd (fX7_seesOf (138 + 1 * ix v2) (M 136 3) M) fun r2 M3 =>
  lt ((if r2 < v1 then r2 else v1)) fun x4 =>
  q5 (v2 + 1) x4 M3
def fX0_seen_L5  : Nat → Int32 → Int32 → Mm → Option (Int32 × Mm)
  | 0 => fun _ _ _ => none
  | n + 1 => fX0_seen_L5b  (fX0_seen_L5  n)
theorem tX0_seen_L5b (l : Launch) (G : Gx) (q5 : Int32 → Int32 → Mm → Option (Int32 × Mm)) (hq5 : ∀ (v2 : Int32) (v1 : Int32) (M : Mm), Sim cQi l layC G 4 cX0_seen RX0 3 (some .int) 5 [(2, .int v2), (1, .int v1), (0, rf G 136)] [] M (q5 v2 v1 M)) (v2 : Int32) (v1 : Int32) (M : Mm) : Sim cQi l layC G 4 cX0_seen RX0 3 (some .int) 5 [(2, .int v2), (1, .int v1), (0, rf G 136)] [] M (fX0_seen_L5b q5 v2 v1 M) := by
  unfold fX0_seen_L5b
  refine s_iload_n 0 dX0_seen_5 rfl rfl ?_
  refine s_aload_n 2 dX0_seen_6 rfl rfl ?_
  refine g_X0_40 rfl dX0_seen_7 ?_
  refine s_icmpge (tgt := 41) dX0_seen_10 (by decide) ?_ ?_
  · exact s_sub [1] rfl (tX0_seen_B41 l G v1 M)
  · refine s_iload_n 1 dX0_seen_13 rfl rfl ?_
    refine s_aload_n 2 dX0_seen_14 rfl rfl ?_
    refine g_X0_17 (q := 0) rfl rfl dX0_seen_15 ?_
    refine s_aload_n 2 dX0_seen_18 rfl rfl ?_
    refine g_X0_11 (q := 137) rfl rfl dX0_seen_19 ?_
    refine s_iload_n 0 dX0_seen_22 rfl rfl ?_
    refine s_gd fun h1 => ?_
    refine s_aald (t := 1) (bs := 138) (sd := 1) (n := 8) rfl rfl h1 dX0_seen_23 ?_
    refine s_aload_n 2 dX0_seen_24 rfl rfl ?_
    refine g_X0_45 rfl dX0_seen_25 ?_
    refine s_call_i (s_runV (ci := 7) (rest := [.int v1]) rfl rfl (mX7_seesOf l G (138 + 1 * ix v2) (M 136 3) M) ok_X7_seesOf k_X0_62 rfl rfl rfl rfl dX0_seen_28) fun r2 M3 => ?_
    refine s_min rfl rfl q_748 q_411 q_64 q_412 dX0_seen_31 ?_
    refine s_leti fun x4 => ?_
    refine s_istore_n (lv' := [(1, .int x4), (2, .int v2), (0, rf G 136)]) dX0_seen_34 rfl rfl rfl ?_
    refine s_iinc (k := 1) (lv' := [(2, .int (v2 + 1)), (1, .int x4), (0, rf G 136)]) dX0_seen_35 rfl ci_1 rfl rfl ?_
    refine s_goto (tgt := 5) dX0_seen_38 (by decide) ?_
    exact s_sub [0, 1, 2] rfl (hq5 (v2 + 1) x4 M3)
theorem tX0_seen_L5 (l : Launch) (G : Gx) : ∀ (n : Nat) (v2 : Int32) (v1 : Int32) (M : Mm), Sim cQi l layC G 4 cX0_seen RX0 3 (some .int) 5 [(2, .int v2), (1, .int v1), (0, rf G 136)] [] M (fX0_seen_L5 n v2 v1 M)
  | 0, _, _, _ => s_none
  | n + 1, v2, v1, M => tX0_seen_L5b l G _ (tX0_seen_L5 l G n) v2 v1 M
def fX0_seen  (M : Mm) : Option (Int32 × Mm) :=
  fX0_seen_L5 FU (0 : Int32) (9 : Int32) M
theorem mX0_seen (l : Launch) (G : Gx)  (M : Mm) : Mt cQi l layC G 4 yX0_seen cX0_seen 3 (some .int) [rf G 136] M (fX0_seen M) := by
  refine Mt.of2 (own := RX0) (lv := [(0, rf G 136)]) rfl (by decide +kernel) rfl rfl ?_
  unfold fX0_seen
  refine s_bipush (v := 9) dX0_seen_0 cb_9 ?_
  refine s_istore_n (lv' := [(1, .int (9 : Int32)), (0, rf G 136)]) dX0_seen_2 rfl rfl rfl ?_
  refine s_iconst (v := 0) dX0_seen_3 ci_0 ?_
  refine s_istore_n (lv' := [(2, .int (0 : Int32)), (1, .int (9 : Int32)), (0, rf G 136)]) dX0_seen_4 rfl rfl rfl ?_
  exact s_sub [0, 1, 2] rfl (tX0_seen_L5 l G FU (0 : Int32) (9 : Int32) M)
theorem dX0_passSheet_0 : decode cX0_passSheet 0 = .ok (.iconst 0, 1) := by decide +kernel
theorem dX0_passSheet_1 : decode cX0_passSheet 1 = .ok (.istore_n 1, 1) := by decide +kernel
theorem dX0_passSheet_2 : decode cX0_passSheet 2 = .ok (.iload_n 1, 1) := by decide +kernel
theorem dX0_passSheet_3 : decode cX0_passSheet 3 = .ok (.aload_n 0, 1) := by decide +kernel
theorem dX0_passSheet_4 : decode cX0_passSheet 4 = .ok (.getfield 40, 3) := by decide +kernel
theorem dX0_passSheet_7 : decode cX0_passSheet 7 = .ok (.if_icmp .ge 41, 3) := by decide +kernel
theorem dX0_passSheet_10 : decode cX0_passSheet 10 = .ok (.aload_n 0, 1) := by decide +kernel
theorem dX0_passSheet_11 : decode cX0_passSheet 11 = .ok (.getfield 11, 3) := by decide +kernel
theorem dX0_passSheet_14 : decode cX0_passSheet 14 = .ok (.iload_n 1, 1) := by decide +kernel
theorem dX0_passSheet_15 : decode cX0_passSheet 15 = .ok (.aaload, 1) := by decide +kernel
theorem dX0_passSheet_16 : decode cX0_passSheet 16 = .ok (.aload_n 0, 1) := by decide +kernel
theorem dX0_passSheet_17 : decode cX0_passSheet 17 = .ok (.getfield 17, 3) := by decide +kernel
theorem dX0_passSheet_20 : decode cX0_passSheet 20 = .ok (.aload_n 0, 1) := by decide +kernel
theorem dX0_passSheet_21 : decode cX0_passSheet 21 = .ok (.getfield 11, 3) := by decide +kernel
theorem dX0_passSheet_24 : decode cX0_passSheet 24 = .ok (.iload_n 1, 1) := by decide +kernel
theorem dX0_passSheet_25 : decode cX0_passSheet 25 = .ok (.aaload, 1) := by decide +kernel
theorem dX0_passSheet_26 : decode cX0_passSheet 26 = .ok (.invokevirtual 66, 3) := by decide +kernel
theorem dX0_passSheet_29 : decode cX0_passSheet 29 = .ok (.invokevirtual 69, 3) := by decide +kernel
theorem dX0_passSheet_32 : decode cX0_passSheet 32 = .ok (.pop, 1) := by decide +kernel
theorem dX0_passSheet_33 : decode cX0_passSheet 33 = .ok (.aload_n 0, 1) := by decide +kernel
theorem dX0_passSheet_34 : decode cX0_passSheet 34 = .ok (.getfield 11, 3) := by decide +kernel
theorem dX0_passSheet_37 : decode cX0_passSheet 37 = .ok (.iload_n 1, 1) := by decide +kernel
theorem dX0_passSheet_38 : decode cX0_passSheet 38 = .ok (.aaload, 1) := by decide +kernel
theorem dX0_passSheet_39 : decode cX0_passSheet 39 = .ok (.invokevirtual 73, 3) := by decide +kernel
theorem dX0_passSheet_42 : decode cX0_passSheet 42 = .ok (.iinc 1 1, 3) := by decide +kernel
theorem dX0_passSheet_45 : decode cX0_passSheet 45 = .ok (.goto (-43), 3) := by decide +kernel
theorem dX0_passSheet_48 : decode cX0_passSheet 48 = .ok (.aload_n 0, 1) := by decide +kernel
theorem dX0_passSheet_49 : decode cX0_passSheet 49 = .ok (.dup, 1) := by decide +kernel
theorem dX0_passSheet_50 : decode cX0_passSheet 50 = .ok (.getfield 45, 3) := by decide +kernel
theorem dX0_passSheet_53 : decode cX0_passSheet 53 = .ok (.iconst 1, 1) := by decide +kernel
theorem dX0_passSheet_54 : decode cX0_passSheet 54 = .ok (.iadd, 1) := by decide +kernel
theorem dX0_passSheet_55 : decode cX0_passSheet 55 = .ok (.putfield 45, 3) := by decide +kernel
theorem dX0_passSheet_58 : decode cX0_passSheet 58 = .ok (.return_, 1) := by decide +kernel
def fX0_passSheet_B48 (M : Mm) : Option (Unit × Mm) :=
  lt (wr M 136 3 ((M 136 3) + (1 : Int32))) fun M1 =>
  some ((), M1)
theorem tX0_passSheet_B48 (l : Launch) (G : Gx) (M : Mm) : Sim cQv l layC G 4 cX0_passSheet RX0 2 none 48 [(0, rf G 136)] [] M (fX0_passSheet_B48 M) := by
  unfold fX0_passSheet_B48
  refine s_aload_n 0 dX0_passSheet_48 rfl rfl ?_
  refine s_dup dX0_passSheet_49 rfl ?_
  refine g_X0_45 rfl dX0_passSheet_50 ?_
  refine s_iconst (v := 1) dX0_passSheet_53 ci_1 ?_
  refine s_iadd dX0_passSheet_54 ?_
  refine p_X0_45 rfl dX0_passSheet_55 ?_
  refine s_letM fun M1 => ?_
  exact s_vret rfl dX0_passSheet_58
def fX0_passSheet_L2b (q2 : Int32 → Mm → Option (Unit × Mm)) (v1 : Int32) (M : Mm) : Option (Unit × Mm) :=
  if (M 136 2) ≤ v1 then (fX0_passSheet_B48 M)
  else gd (inb v1 8) <|
  bd (fX7_meltsOf (138 + 1 * ix v1) M) fun r3 M4 =>
  gd (isC layC (138 + 1 * ix v1) 3) <|
  bd (fX3_takeIce (138 + 1 * ix v1) r3 M4) fun r6 M7 =>
  bd (fX3_grow (138 + 1 * ix v1) M7) fun r8 M9 =>
  q2 (v1 + 1) M9
def fX0_passSheet_L2  : Nat → Int32 → Mm → Option (Unit × Mm)
  | 0 => fun _ _ => none
  | n + 1 => fX0_passSheet_L2b  (fX0_passSheet_L2  n)
theorem tX0_passSheet_L2b (l : Launch) (G : Gx) (q2 : Int32 → Mm → Option (Unit × Mm)) (hq2 : ∀ (v1 : Int32) (M : Mm), Sim cQv l layC G 4 cX0_passSheet RX0 2 none 2 [(1, .int v1), (0, rf G 136)] [] M (q2 v1 M)) (v1 : Int32) (M : Mm) : Sim cQv l layC G 4 cX0_passSheet RX0 2 none 2 [(1, .int v1), (0, rf G 136)] [] M (fX0_passSheet_L2b q2 v1 M) := by
  unfold fX0_passSheet_L2b
  refine s_iload_n 0 dX0_passSheet_2 rfl rfl ?_
  refine s_aload_n 1 dX0_passSheet_3 rfl rfl ?_
  refine g_X0_40 rfl dX0_passSheet_4 ?_
  refine s_icmpge (tgt := 48) dX0_passSheet_7 (by decide) ?_ ?_
  · exact s_sub [1] rfl (tX0_passSheet_B48 l G M)
  · refine s_aload_n 1 dX0_passSheet_10 rfl rfl ?_
    refine g_X0_11 (q := 137) rfl rfl dX0_passSheet_11 ?_
    refine s_iload_n 0 dX0_passSheet_14 rfl rfl ?_
    refine s_gd fun h2 => ?_
    refine s_aald (t := 1) (bs := 138) (sd := 1) (n := 8) rfl rfl h2 dX0_passSheet_15 ?_
    refine s_aload_n 1 dX0_passSheet_16 rfl rfl ?_
    refine g_X0_17 (q := 0) rfl rfl dX0_passSheet_17 ?_
    refine s_aload_n 1 dX0_passSheet_20 rfl rfl ?_
    refine g_X0_11 (q := 137) rfl rfl dX0_passSheet_21 ?_
    refine s_iload_n 0 dX0_passSheet_24 rfl rfl ?_
    refine s_aald (t := 1) (bs := 138) (sd := 1) (n := 8) rfl rfl h2 dX0_passSheet_25 ?_
    refine s_call_i (s_runV (ci := 7) (rest := [rf G (138 + 1 * ix v1)]) rfl rfl (mX7_meltsOf l G (138 + 1 * ix v1) M) ok_X7_meltsOf k_X0_66 rfl rfl rfl rfl dX0_passSheet_26) fun r3 M4 => ?_
    refine s_gd fun h5 => ?_
    refine s_call_i (s_runV (ci := 3) (rest := []) h5 rfl (mX3_takeIce l G (138 + 1 * ix v1) r3 M4) ok_X3_takeIce k_X0_69 rfl rfl rfl rfl dX0_passSheet_29) fun r6 M7 => ?_
    refine s_pop dX0_passSheet_32 rfl ?_
    refine s_aload_n 1 dX0_passSheet_33 rfl rfl ?_
    refine g_X0_11 (q := 137) rfl rfl dX0_passSheet_34 ?_
    refine s_iload_n 0 dX0_passSheet_37 rfl rfl ?_
    refine s_aald (t := 1) (bs := 138) (sd := 1) (n := 8) rfl rfl h2 dX0_passSheet_38 ?_
    refine s_call_v (s_runV (ci := 3) (rest := []) h5 rfl (mX3_grow l G (138 + 1 * ix v1) M7) ok_X3_grow k_X0_73 rfl rfl rfl rfl dX0_passSheet_39) fun r8 M9 => ?_
    refine s_iinc (k := 0) (lv' := [(1, .int (v1 + 1)), (0, rf G 136)]) dX0_passSheet_42 rfl ci_1 rfl rfl ?_
    refine s_goto (tgt := 2) dX0_passSheet_45 (by decide) ?_
    exact s_sub [0, 1] rfl (hq2 (v1 + 1) M9)
theorem tX0_passSheet_L2 (l : Launch) (G : Gx) : ∀ (n : Nat) (v1 : Int32) (M : Mm), Sim cQv l layC G 4 cX0_passSheet RX0 2 none 2 [(1, .int v1), (0, rf G 136)] [] M (fX0_passSheet_L2 n v1 M)
  | 0, _, _ => s_none
  | n + 1, v1, M => tX0_passSheet_L2b l G _ (tX0_passSheet_L2 l G n) v1 M
def fX0_passSheet  (M : Mm) : Option (Unit × Mm) :=
  fX0_passSheet_L2 FU (0 : Int32) M
theorem mX0_passSheet (l : Launch) (G : Gx)  (M : Mm) : Mt cQv l layC G 4 yX0_passSheet cX0_passSheet 2 none [rf G 136] M (fX0_passSheet M) := by
  refine Mt.of2 (own := RX0) (lv := [(0, rf G 136)]) rfl (by decide +kernel) rfl rfl ?_
  unfold fX0_passSheet
  refine s_iconst (v := 0) dX0_passSheet_0 ci_0 ?_
  refine s_istore_n (lv' := [(1, .int (0 : Int32)), (0, rf G 136)]) dX0_passSheet_1 rfl rfl rfl ?_
  exact s_sub [0, 1] rfl (tX0_passSheet_L2 l G FU (0 : Int32) M)
theorem dX0_waitSheet_0 : decode cX0_waitSheet 0 = .ok (.iconst 0, 1) := by decide +kernel
theorem dX0_waitSheet_1 : decode cX0_waitSheet 1 = .ok (.istore_n 1, 1) := by decide +kernel
theorem dX0_waitSheet_2 : decode cX0_waitSheet 2 = .ok (.iload_n 1, 1) := by decide +kernel
theorem dX0_waitSheet_3 : decode cX0_waitSheet 3 = .ok (.aload_n 0, 1) := by decide +kernel
theorem dX0_waitSheet_4 : decode cX0_waitSheet 4 = .ok (.getfield 40, 3) := by decide +kernel
theorem dX0_waitSheet_7 : decode cX0_waitSheet 7 = .ok (.if_icmp .ge 32, 3) := by decide +kernel
theorem dX0_waitSheet_10 : decode cX0_waitSheet 10 = .ok (.aload_n 0, 1) := by decide +kernel
theorem dX0_waitSheet_11 : decode cX0_waitSheet 11 = .ok (.getfield 11, 3) := by decide +kernel
theorem dX0_waitSheet_14 : decode cX0_waitSheet 14 = .ok (.iload_n 1, 1) := by decide +kernel
theorem dX0_waitSheet_15 : decode cX0_waitSheet 15 = .ok (.aaload, 1) := by decide +kernel
theorem dX0_waitSheet_16 : decode cX0_waitSheet 16 = .ok (.aload_n 0, 1) := by decide +kernel
theorem dX0_waitSheet_17 : decode cX0_waitSheet 17 = .ok (.getfield 17, 3) := by decide +kernel
theorem dX0_waitSheet_20 : decode cX0_waitSheet 20 = .ok (.aload_n 0, 1) := by decide +kernel
theorem dX0_waitSheet_21 : decode cX0_waitSheet 21 = .ok (.getfield 11, 3) := by decide +kernel
theorem dX0_waitSheet_24 : decode cX0_waitSheet 24 = .ok (.iload_n 1, 1) := by decide +kernel
theorem dX0_waitSheet_25 : decode cX0_waitSheet 25 = .ok (.aaload, 1) := by decide +kernel
theorem dX0_waitSheet_26 : decode cX0_waitSheet 26 = .ok (.invokevirtual 66, 3) := by decide +kernel
theorem dX0_waitSheet_29 : decode cX0_waitSheet 29 = .ok (.invokevirtual 69, 3) := by decide +kernel
theorem dX0_waitSheet_32 : decode cX0_waitSheet 32 = .ok (.pop, 1) := by decide +kernel
theorem dX0_waitSheet_33 : decode cX0_waitSheet 33 = .ok (.iinc 1 1, 3) := by decide +kernel
theorem dX0_waitSheet_36 : decode cX0_waitSheet 36 = .ok (.goto (-34), 3) := by decide +kernel
theorem dX0_waitSheet_39 : decode cX0_waitSheet 39 = .ok (.return_, 1) := by decide +kernel
def fX0_waitSheet_B39 (M : Mm) : Option (Unit × Mm) :=
  some ((), M)
theorem tX0_waitSheet_B39 (l : Launch) (G : Gx) (M : Mm) : Sim cQv l layC G 4 cX0_waitSheet RX0 2 none 39 [] [] M (fX0_waitSheet_B39 M) := by
  unfold fX0_waitSheet_B39
  exact s_vret rfl dX0_waitSheet_39
def fX0_waitSheet_L2b (q2 : Int32 → Mm → Option (Unit × Mm)) (v1 : Int32) (M : Mm) : Option (Unit × Mm) :=
  if (M 136 2) ≤ v1 then (fX0_waitSheet_B39 M)
  else gd (inb v1 8) <|
  bd (fX7_meltsOf (138 + 1 * ix v1) M) fun r2 M3 =>
  gd (isC layC (138 + 1 * ix v1) 3) <|
  bd (fX3_takeIce (138 + 1 * ix v1) r2 M3) fun r5 M6 =>
  q2 (v1 + 1) M6
def fX0_waitSheet_L2  : Nat → Int32 → Mm → Option (Unit × Mm)
  | 0 => fun _ _ => none
  | n + 1 => fX0_waitSheet_L2b  (fX0_waitSheet_L2  n)
theorem tX0_waitSheet_L2b (l : Launch) (G : Gx) (q2 : Int32 → Mm → Option (Unit × Mm)) (hq2 : ∀ (v1 : Int32) (M : Mm), Sim cQv l layC G 4 cX0_waitSheet RX0 2 none 2 [(1, .int v1), (0, rf G 136)] [] M (q2 v1 M)) (v1 : Int32) (M : Mm) : Sim cQv l layC G 4 cX0_waitSheet RX0 2 none 2 [(1, .int v1), (0, rf G 136)] [] M (fX0_waitSheet_L2b q2 v1 M) := by
  unfold fX0_waitSheet_L2b
  refine s_iload_n 0 dX0_waitSheet_2 rfl rfl ?_
  refine s_aload_n 1 dX0_waitSheet_3 rfl rfl ?_
  refine g_X0_40 rfl dX0_waitSheet_4 ?_
  refine s_icmpge (tgt := 39) dX0_waitSheet_7 (by decide) ?_ ?_
  · exact s_sub [] rfl (tX0_waitSheet_B39 l G M)
  · refine s_aload_n 1 dX0_waitSheet_10 rfl rfl ?_
    refine g_X0_11 (q := 137) rfl rfl dX0_waitSheet_11 ?_
    refine s_iload_n 0 dX0_waitSheet_14 rfl rfl ?_
    refine s_gd fun h1 => ?_
    refine s_aald (t := 1) (bs := 138) (sd := 1) (n := 8) rfl rfl h1 dX0_waitSheet_15 ?_
    refine s_aload_n 1 dX0_waitSheet_16 rfl rfl ?_
    refine g_X0_17 (q := 0) rfl rfl dX0_waitSheet_17 ?_
    refine s_aload_n 1 dX0_waitSheet_20 rfl rfl ?_
    refine g_X0_11 (q := 137) rfl rfl dX0_waitSheet_21 ?_
    refine s_iload_n 0 dX0_waitSheet_24 rfl rfl ?_
    refine s_aald (t := 1) (bs := 138) (sd := 1) (n := 8) rfl rfl h1 dX0_waitSheet_25 ?_
    refine s_call_i (s_runV (ci := 7) (rest := [rf G (138 + 1 * ix v1)]) rfl rfl (mX7_meltsOf l G (138 + 1 * ix v1) M) ok_X7_meltsOf k_X0_66 rfl rfl rfl rfl dX0_waitSheet_26) fun r2 M3 => ?_
    refine s_gd fun h4 => ?_
    refine s_call_i (s_runV (ci := 3) (rest := []) h4 rfl (mX3_takeIce l G (138 + 1 * ix v1) r2 M3) ok_X3_takeIce k_X0_69 rfl rfl rfl rfl dX0_waitSheet_29) fun r5 M6 => ?_
    refine s_pop dX0_waitSheet_32 rfl ?_
    refine s_iinc (k := 0) (lv' := [(1, .int (v1 + 1)), (0, rf G 136)]) dX0_waitSheet_33 rfl ci_1 rfl rfl ?_
    refine s_goto (tgt := 2) dX0_waitSheet_36 (by decide) ?_
    exact s_sub [0, 1] rfl (hq2 (v1 + 1) M6)
theorem tX0_waitSheet_L2 (l : Launch) (G : Gx) : ∀ (n : Nat) (v1 : Int32) (M : Mm), Sim cQv l layC G 4 cX0_waitSheet RX0 2 none 2 [(1, .int v1), (0, rf G 136)] [] M (fX0_waitSheet_L2 n v1 M)
  | 0, _, _ => s_none
  | n + 1, v1, M => tX0_waitSheet_L2b l G _ (tX0_waitSheet_L2 l G n) v1 M
def fX0_waitSheet  (M : Mm) : Option (Unit × Mm) :=
  fX0_waitSheet_L2 FU (0 : Int32) M
theorem mX0_waitSheet (l : Launch) (G : Gx)  (M : Mm) : Mt cQv l layC G 4 yX0_waitSheet cX0_waitSheet 2 none [rf G 136] M (fX0_waitSheet M) := by
  refine Mt.of2 (own := RX0) (lv := [(0, rf G 136)]) rfl (by decide +kernel) rfl rfl ?_
  unfold fX0_waitSheet
  refine s_iconst (v := 0) dX0_waitSheet_0 ci_0 ?_
  refine s_istore_n (lv' := [(1, .int (0 : Int32)), (0, rf G 136)]) dX0_waitSheet_1 rfl rfl rfl ?_
  exact s_sub [0, 1] rfl (tX0_waitSheet_L2 l G FU (0 : Int32) M)
theorem dX0_clearInARun_0 : decode cX0_clearInARun 0 = .ok (.iconst 0, 1) := by decide +kernel
theorem dX0_clearInARun_1 : decode cX0_clearInARun 1 = .ok (.istore_n 2, 1) := by decide +kernel
theorem dX0_clearInARun_2 : decode cX0_clearInARun 2 = .ok (.iload_n 2, 1) := by decide +kernel
theorem dX0_clearInARun_3 : decode cX0_clearInARun 3 = .ok (.iload_n 1, 1) := by decide +kernel
theorem dX0_clearInARun_4 : decode cX0_clearInARun 4 = .ok (.if_icmp .ge 21, 3) := by decide +kernel
theorem dX0_clearInARun_7 : decode cX0_clearInARun 7 = .ok (.aload_n 0, 1) := by decide +kernel
theorem dX0_clearInARun_8 : decode cX0_clearInARun 8 = .ok (.invokevirtual 76, 3) := by decide +kernel
theorem dX0_clearInARun_11 : decode cX0_clearInARun 11 = .ok (.iconst 3, 1) := by decide +kernel
theorem dX0_clearInARun_12 : decode cX0_clearInARun 12 = .ok (.if_icmp .lt 13, 3) := by decide +kernel
theorem dX0_clearInARun_15 : decode cX0_clearInARun 15 = .ok (.aload_n 0, 1) := by decide +kernel
theorem dX0_clearInARun_16 : decode cX0_clearInARun 16 = .ok (.invokevirtual 80, 3) := by decide +kernel
theorem dX0_clearInARun_19 : decode cX0_clearInARun 19 = .ok (.iinc 2 1, 3) := by decide +kernel
theorem dX0_clearInARun_22 : decode cX0_clearInARun 22 = .ok (.goto (-20), 3) := by decide +kernel
theorem dX0_clearInARun_25 : decode cX0_clearInARun 25 = .ok (.iload_n 2, 1) := by decide +kernel
theorem dX0_clearInARun_26 : decode cX0_clearInARun 26 = .ok (.ireturn, 1) := by decide +kernel
def fX0_clearInARun_B25 (v2 : Int32) (M : Mm) : Option (Int32 × Mm) :=
  some (v2, M)
theorem tX0_clearInARun_B25 (l : Launch) (G : Gx) (v2 : Int32) (M : Mm) : Sim cQi l layC G 5 cX0_clearInARun RX0 3 (some .int) 25 [(2, .int v2)] [] M (fX0_clearInARun_B25 v2 M) := by
  unfold fX0_clearInARun_B25
  refine s_iload_n 0 dX0_clearInARun_25 rfl rfl ?_
  exact s_iret rfl dX0_clearInARun_26
def fX0_clearInARun_L2b (v1 : Int32) (q2 : Int32 → Mm → Option (Int32 × Mm)) (v2 : Int32) (M : Mm) : Option (Int32 × Mm) :=
  if v1 ≤ v2 then (fX0_clearInARun_B25 v2 M)
  else bd (fX0_seen M) fun r1 M2 =>
  if r1 < (3 : Int32) then (fX0_clearInARun_B25 v2 M2)
  else bd (fX0_passSheet M2) fun r3 M4 =>
  q2 (v2 + 1) M4
def fX0_clearInARun_L2 (v1 : Int32) : Nat → Int32 → Mm → Option (Int32 × Mm)
  | 0 => fun _ _ => none
  | n + 1 => fX0_clearInARun_L2b v1 (fX0_clearInARun_L2 v1 n)
theorem tX0_clearInARun_L2b (l : Launch) (G : Gx) (v1 : Int32) (q2 : Int32 → Mm → Option (Int32 × Mm)) (hq2 : ∀ (v2 : Int32) (M : Mm), Sim cQi l layC G 5 cX0_clearInARun RX0 3 (some .int) 2 [(2, .int v2), (0, rf G 136), (1, .int v1)] [] M (q2 v2 M)) (v2 : Int32) (M : Mm) : Sim cQi l layC G 5 cX0_clearInARun RX0 3 (some .int) 2 [(2, .int v2), (0, rf G 136), (1, .int v1)] [] M (fX0_clearInARun_L2b v1 q2 v2 M) := by
  unfold fX0_clearInARun_L2b
  refine s_iload_n 0 dX0_clearInARun_2 rfl rfl ?_
  refine s_iload_n 2 dX0_clearInARun_3 rfl rfl ?_
  refine s_icmpge (tgt := 25) dX0_clearInARun_4 (by decide) ?_ ?_
  · exact s_sub [0] rfl (tX0_clearInARun_B25 l G v2 M)
  · refine s_aload_n 1 dX0_clearInARun_7 rfl rfl ?_
    refine s_call_i (s_runV (ci := 0) (rest := []) rfl rfl (mX0_seen l G M) ok_X0_seen k_X0_76 rfl rfl rfl rfl dX0_clearInARun_8) fun r1 M2 => ?_
    refine s_iconst (v := 3) dX0_clearInARun_11 ci_3 ?_
    refine s_icmplt (tgt := 25) dX0_clearInARun_12 (by decide) ?_ ?_
    · exact s_sub [0] rfl (tX0_clearInARun_B25 l G v2 M2)
    · refine s_aload_n 1 dX0_clearInARun_15 rfl rfl ?_
      refine s_call_v (s_runV (ci := 0) (rest := []) rfl rfl (mX0_passSheet l G M2) ok_X0_passSheet k_X0_80 rfl rfl rfl rfl dX0_clearInARun_16) fun r3 M4 => ?_
      refine s_iinc (k := 0) (lv' := [(2, .int (v2 + 1)), (0, rf G 136), (1, .int v1)]) dX0_clearInARun_19 rfl ci_1 rfl rfl ?_
      refine s_goto (tgt := 2) dX0_clearInARun_22 (by decide) ?_
      exact s_sub [0, 1, 2] rfl (hq2 (v2 + 1) M4)
theorem tX0_clearInARun_L2 (l : Launch) (G : Gx) (v1 : Int32) : ∀ (n : Nat) (v2 : Int32) (M : Mm), Sim cQi l layC G 5 cX0_clearInARun RX0 3 (some .int) 2 [(2, .int v2), (0, rf G 136), (1, .int v1)] [] M (fX0_clearInARun_L2 v1 n v2 M)
  | 0, _, _ => s_none
  | n + 1, v2, M => tX0_clearInARun_L2b l G v1 _ (tX0_clearInARun_L2 l G v1 n) v2 M
def fX0_clearInARun (a1 : Int32) (M : Mm) : Option (Int32 × Mm) :=
  fX0_clearInARun_L2 a1 FU (0 : Int32) M
theorem mX0_clearInARun (l : Launch) (G : Gx) (a1 : Int32) (M : Mm) : Mt cQi l layC G 5 yX0_clearInARun cX0_clearInARun 3 (some .int) [rf G 136, .int a1] M (fX0_clearInARun a1 M) := by
  refine Mt.of2 (own := RX0) (lv := [(0, rf G 136), (1, .int a1)]) rfl (by decide +kernel) rfl rfl ?_
  unfold fX0_clearInARun
  refine s_iconst (v := 0) dX0_clearInARun_0 ci_0 ?_
  refine s_istore_n (lv' := [(2, .int (0 : Int32)), (0, rf G 136), (1, .int a1)]) dX0_clearInARun_1 rfl rfl rfl ?_
  exact s_sub [0, 1, 2] rfl (tX0_clearInARun_L2 l G a1 FU (0 : Int32) M)
theorem dX6_clearInTurn_0 : decode cX6_clearInTurn 0 = .ok (.aload_n 0, 1) := by decide +kernel
theorem dX6_clearInTurn_1 : decode cX6_clearInTurn 1 = .ok (.getfield 30, 3) := by decide +kernel
theorem dX6_clearInTurn_4 : decode cX6_clearInTurn 4 = .ok (.iload_n 1, 1) := by decide +kernel
theorem dX6_clearInTurn_5 : decode cX6_clearInTurn 5 = .ok (.invokevirtual 69, 3) := by decide +kernel
theorem dX6_clearInTurn_8 : decode cX6_clearInTurn 8 = .ok (.iconst 0, 1) := by decide +kernel
theorem dX6_clearInTurn_9 : decode cX6_clearInTurn 9 = .ok (.istore 4, 2) := by decide +kernel
theorem dX6_clearInTurn_11 : decode cX6_clearInTurn 11 = .ok (.iload 4, 2) := by decide +kernel
theorem dX6_clearInTurn_13 : decode cX6_clearInTurn 13 = .ok (.iload_n 2, 1) := by decide +kernel
theorem dX6_clearInTurn_14 : decode cX6_clearInTurn 14 = .ok (.iload_n 3, 1) := by decide +kernel
theorem dX6_clearInTurn_15 : decode cX6_clearInTurn 15 = .ok (.imul, 1) := by decide +kernel
theorem dX6_clearInTurn_16 : decode cX6_clearInTurn 16 = .ok (.if_icmp .ge 16, 3) := by decide +kernel
theorem dX6_clearInTurn_19 : decode cX6_clearInTurn 19 = .ok (.aload_n 0, 1) := by decide +kernel
theorem dX6_clearInTurn_20 : decode cX6_clearInTurn 20 = .ok (.getfield 30, 3) := by decide +kernel
theorem dX6_clearInTurn_23 : decode cX6_clearInTurn 23 = .ok (.invokevirtual 74, 3) := by decide +kernel
theorem dX6_clearInTurn_26 : decode cX6_clearInTurn 26 = .ok (.iinc 4 1, 3) := by decide +kernel
theorem dX6_clearInTurn_29 : decode cX6_clearInTurn 29 = .ok (.goto (-18), 3) := by decide +kernel
theorem dX6_clearInTurn_32 : decode cX6_clearInTurn 32 = .ok (.iconst 0, 1) := by decide +kernel
theorem dX6_clearInTurn_33 : decode cX6_clearInTurn 33 = .ok (.istore 4, 2) := by decide +kernel
theorem dX6_clearInTurn_35 : decode cX6_clearInTurn 35 = .ok (.iconst 0, 1) := by decide +kernel
theorem dX6_clearInTurn_36 : decode cX6_clearInTurn 36 = .ok (.istore 5, 2) := by decide +kernel
theorem dX6_clearInTurn_38 : decode cX6_clearInTurn 38 = .ok (.iload 5, 2) := by decide +kernel
theorem dX6_clearInTurn_40 : decode cX6_clearInTurn 40 = .ok (.iload_n 3, 1) := by decide +kernel
theorem dX6_clearInTurn_41 : decode cX6_clearInTurn 41 = .ok (.if_icmp .ge 37, 3) := by decide +kernel
theorem dX6_clearInTurn_44 : decode cX6_clearInTurn 44 = .ok (.iload 4, 2) := by decide +kernel
theorem dX6_clearInTurn_46 : decode cX6_clearInTurn 46 = .ok (.aload_n 0, 1) := by decide +kernel
theorem dX6_clearInTurn_47 : decode cX6_clearInTurn 47 = .ok (.getfield 30, 3) := by decide +kernel
theorem dX6_clearInTurn_50 : decode cX6_clearInTurn 50 = .ok (.invokevirtual 77, 3) := by decide +kernel
theorem dX6_clearInTurn_53 : decode cX6_clearInTurn 53 = .ok (.iconst 3, 1) := by decide +kernel
theorem dX6_clearInTurn_54 : decode cX6_clearInTurn 54 = .ok (.if_icmp .lt 7, 3) := by decide +kernel
theorem dX6_clearInTurn_57 : decode cX6_clearInTurn 57 = .ok (.iconst 1, 1) := by decide +kernel
theorem dX6_clearInTurn_58 : decode cX6_clearInTurn 58 = .ok (.goto 4, 3) := by decide +kernel
theorem dX6_clearInTurn_61 : decode cX6_clearInTurn 61 = .ok (.iconst 0, 1) := by decide +kernel
theorem dX6_clearInTurn_62 : decode cX6_clearInTurn 62 = .ok (.iadd, 1) := by decide +kernel
theorem dX6_clearInTurn_63 : decode cX6_clearInTurn 63 = .ok (.istore 4, 2) := by decide +kernel
theorem dX6_clearInTurn_65 : decode cX6_clearInTurn 65 = .ok (.aload_n 0, 1) := by decide +kernel
theorem dX6_clearInTurn_66 : decode cX6_clearInTurn 66 = .ok (.getfield 30, 3) := by decide +kernel
theorem dX6_clearInTurn_69 : decode cX6_clearInTurn 69 = .ok (.invokevirtual 81, 3) := by decide +kernel
theorem dX6_clearInTurn_72 : decode cX6_clearInTurn 72 = .ok (.iinc 5 1, 3) := by decide +kernel
theorem dX6_clearInTurn_75 : decode cX6_clearInTurn 75 = .ok (.goto (-37), 3) := by decide +kernel
theorem dX6_clearInTurn_78 : decode cX6_clearInTurn 78 = .ok (.iload 4, 2) := by decide +kernel
theorem dX6_clearInTurn_80 : decode cX6_clearInTurn 80 = .ok (.ireturn, 1) := by decide +kernel
def fX6_clearInTurn_B78 (v4 : Int32) (M : Mm) : Option (Int32 × Mm) :=
  some (v4, M)
theorem tX6_clearInTurn_B78 (l : Launch) (G : Gx) (v4 : Int32) (M : Mm) : Sim cQi l layC G 5 cX6_clearInTurn RX6 6 (some .int) 78 [(4, .int v4)] [] M (fX6_clearInTurn_B78 v4 M) := by
  unfold fX6_clearInTurn_B78
  refine s_iload 0 dX6_clearInTurn_78 rfl ?_
  exact s_iret rfl dX6_clearInTurn_80
def fX6_clearInTurn_B62 (q38 : Int32 → Int32 → Mm → Option (Int32 × Mm)) (v5 : Int32) (v3 : Int32) (w0 : Int32) (w1 : Int32) (M : Mm) : Option (Int32 × Mm) :=
  lt (w1 + w0) fun x5 =>
  bd (fX0_passSheet M) fun r6 M7 =>
  q38 (v5 + 1) x5 M7
theorem tX6_clearInTurn_B62 (l : Launch) (G : Gx) (v5 : Int32) (v3 : Int32) (w0 : Int32) (w1 : Int32) (q38 : Int32 → Int32 → Mm → Option (Int32 × Mm)) (hq38 : ∀ (v5 : Int32) (v4 : Int32) (M : Mm), Sim cQi l layC G 5 cX6_clearInTurn RX6 6 (some .int) 38 [(5, .int v5), (4, .int v4), (0, rf G 146), (3, .int v3)] [] M (q38 v5 v4 M)) (M : Mm) : Sim cQi l layC G 5 cX6_clearInTurn RX6 6 (some .int) 62 [(5, .int v5), (0, rf G 146), (3, .int v3)] [.int w0, .int w1] M (fX6_clearInTurn_B62 q38 v5 v3 w0 w1 M) := by
  unfold fX6_clearInTurn_B62
  refine s_iadd dX6_clearInTurn_62 ?_
  refine s_leti fun x5 => ?_
  refine s_istore (lv' := [(4, .int x5), (5, .int v5), (0, rf G 146), (3, .int v3)]) dX6_clearInTurn_63 rfl rfl ?_
  refine s_aload_n 2 dX6_clearInTurn_65 rfl rfl ?_
  refine g_X6_30 (q := 136) rfl rfl dX6_clearInTurn_66 ?_
  refine s_call_v (s_runV (ci := 0) (rest := []) rfl rfl (mX0_passSheet l G M) ok_X0_passSheet k_X6_81 rfl rfl rfl rfl dX6_clearInTurn_69) fun r6 M7 => ?_
  refine s_iinc (k := 1) (lv' := [(5, .int (v5 + 1)), (4, .int x5), (0, rf G 146), (3, .int v3)]) dX6_clearInTurn_72 rfl ci_1 rfl rfl ?_
  refine s_goto (tgt := 38) dX6_clearInTurn_75 (by decide) ?_
  exact s_sub [0, 1, 2, 3] rfl (hq38 (v5 + 1) x5 M7)
def fX6_clearInTurn_L38b (v3 : Int32) (q38 : Int32 → Int32 → Mm → Option (Int32 × Mm)) (v5 : Int32) (v4 : Int32) (M : Mm) : Option (Int32 × Mm) :=
  if v3 ≤ v5 then (fX6_clearInTurn_B78 v4 M)
  else bd (fX0_seen M) fun r3 M4 =>
  if r3 < (3 : Int32) then (fX6_clearInTurn_B62 q38 v5 v3 (0 : Int32) v4 M4)
  else fX6_clearInTurn_B62 q38 v5 v3 (1 : Int32) v4 M4
def fX6_clearInTurn_L38 (v3 : Int32) : Nat → Int32 → Int32 → Mm → Option (Int32 × Mm)
  | 0 => fun _ _ _ => none
  | n + 1 => fX6_clearInTurn_L38b v3 (fX6_clearInTurn_L38 v3 n)
theorem tX6_clearInTurn_L38b (l : Launch) (G : Gx) (v3 : Int32) (q38 : Int32 → Int32 → Mm → Option (Int32 × Mm)) (hq38 : ∀ (v5 : Int32) (v4 : Int32) (M : Mm), Sim cQi l layC G 5 cX6_clearInTurn RX6 6 (some .int) 38 [(5, .int v5), (4, .int v4), (0, rf G 146), (3, .int v3)] [] M (q38 v5 v4 M)) (v5 : Int32) (v4 : Int32) (M : Mm) : Sim cQi l layC G 5 cX6_clearInTurn RX6 6 (some .int) 38 [(5, .int v5), (4, .int v4), (0, rf G 146), (3, .int v3)] [] M (fX6_clearInTurn_L38b v3 q38 v5 v4 M) := by
  unfold fX6_clearInTurn_L38b
  refine s_iload 0 dX6_clearInTurn_38 rfl ?_
  refine s_iload_n 3 dX6_clearInTurn_40 rfl rfl ?_
  refine s_icmpge (tgt := 78) dX6_clearInTurn_41 (by decide) ?_ ?_
  · exact s_sub [1] rfl (tX6_clearInTurn_B78 l G v4 M)
  · refine s_iload 1 dX6_clearInTurn_44 rfl ?_
    refine s_aload_n 2 dX6_clearInTurn_46 rfl rfl ?_
    refine g_X6_30 (q := 136) rfl rfl dX6_clearInTurn_47 ?_
    refine s_call_i (s_runV (ci := 0) (rest := [.int v4]) rfl rfl (mX0_seen l G M) ok_X0_seen k_X6_77 rfl rfl rfl rfl dX6_clearInTurn_50) fun r3 M4 => ?_
    refine s_iconst (v := 3) dX6_clearInTurn_53 ci_3 ?_
    refine s_icmplt (tgt := 61) dX6_clearInTurn_54 (by decide) ?_ ?_
    · refine s_iconst (v := 0) dX6_clearInTurn_61 ci_0 ?_
      exact s_sub [0, 2, 3] rfl (tX6_clearInTurn_B62 l G v5 v3 (0 : Int32) v4 q38 hq38 M4)
    · refine s_iconst (v := 1) dX6_clearInTurn_57 ci_1 ?_
      refine s_goto (tgt := 62) dX6_clearInTurn_58 (by decide) ?_
      exact s_sub [0, 2, 3] rfl (tX6_clearInTurn_B62 l G v5 v3 (1 : Int32) v4 q38 hq38 M4)
theorem tX6_clearInTurn_L38 (l : Launch) (G : Gx) (v3 : Int32) : ∀ (n : Nat) (v5 : Int32) (v4 : Int32) (M : Mm), Sim cQi l layC G 5 cX6_clearInTurn RX6 6 (some .int) 38 [(5, .int v5), (4, .int v4), (0, rf G 146), (3, .int v3)] [] M (fX6_clearInTurn_L38 v3 n v5 v4 M)
  | 0, _, _, _ => s_none
  | n + 1, v5, v4, M => tX6_clearInTurn_L38b l G v3 _ (tX6_clearInTurn_L38 l G v3 n) v5 v4 M
def fX6_clearInTurn_B32 (v3 : Int32) (M : Mm) : Option (Int32 × Mm) :=
  fX6_clearInTurn_L38 v3 FU (0 : Int32) (0 : Int32) M
theorem tX6_clearInTurn_B32 (l : Launch) (G : Gx) (v3 : Int32) (M : Mm) : Sim cQi l layC G 5 cX6_clearInTurn RX6 6 (some .int) 32 [(0, rf G 146), (3, .int v3)] [] M (fX6_clearInTurn_B32 v3 M) := by
  unfold fX6_clearInTurn_B32
  refine s_iconst (v := 0) dX6_clearInTurn_32 ci_0 ?_
  refine s_istore (lv' := [(4, .int (0 : Int32)), (0, rf G 146), (3, .int v3)]) dX6_clearInTurn_33 rfl rfl ?_
  refine s_iconst (v := 0) dX6_clearInTurn_35 ci_0 ?_
  refine s_istore (lv' := [(5, .int (0 : Int32)), (4, .int (0 : Int32)), (0, rf G 146), (3, .int v3)]) dX6_clearInTurn_36 rfl rfl ?_
  exact s_sub [0, 1, 2, 3] rfl (tX6_clearInTurn_L38 l G v3 FU (0 : Int32) (0 : Int32) M)
def fX6_clearInTurn_L11b (v2 : Int32) (v3 : Int32) (q11 : Int32 → Mm → Option (Int32 × Mm)) (v4 : Int32) (M : Mm) : Option (Int32 × Mm) :=
  if (v2 * v3) ≤ v4 then (fX6_clearInTurn_B32 v3 M)
  else bd (fX0_waitSheet M) fun r8 M9 =>
  q11 (v4 + 1) M9
def fX6_clearInTurn_L11 (v2 : Int32) (v3 : Int32) : Nat → Int32 → Mm → Option (Int32 × Mm)
  | 0 => fun _ _ => none
  | n + 1 => fX6_clearInTurn_L11b v2 v3 (fX6_clearInTurn_L11 v2 v3 n)
theorem tX6_clearInTurn_L11b (l : Launch) (G : Gx) (v2 : Int32) (v3 : Int32) (q11 : Int32 → Mm → Option (Int32 × Mm)) (hq11 : ∀ (v4 : Int32) (M : Mm), Sim cQi l layC G 5 cX6_clearInTurn RX6 6 (some .int) 11 [(4, .int v4), (0, rf G 146), (2, .int v2), (3, .int v3)] [] M (q11 v4 M)) (v4 : Int32) (M : Mm) : Sim cQi l layC G 5 cX6_clearInTurn RX6 6 (some .int) 11 [(4, .int v4), (0, rf G 146), (2, .int v2), (3, .int v3)] [] M (fX6_clearInTurn_L11b v2 v3 q11 v4 M) := by
  unfold fX6_clearInTurn_L11b
  refine s_iload 0 dX6_clearInTurn_11 rfl ?_
  refine s_iload_n 2 dX6_clearInTurn_13 rfl rfl ?_
  refine s_iload_n 3 dX6_clearInTurn_14 rfl rfl ?_
  refine s_imul dX6_clearInTurn_15 ?_
  refine s_icmpge (tgt := 32) dX6_clearInTurn_16 (by decide) ?_ ?_
  · exact s_sub [1, 3] rfl (tX6_clearInTurn_B32 l G v3 M)
  · refine s_aload_n 1 dX6_clearInTurn_19 rfl rfl ?_
    refine g_X6_30 (q := 136) rfl rfl dX6_clearInTurn_20 ?_
    refine s_call_v (s_runV (ci := 0) (rest := []) rfl rfl (mX0_waitSheet l G M) ok_X0_waitSheet k_X6_74 rfl rfl rfl rfl dX6_clearInTurn_23) fun r8 M9 => ?_
    refine s_iinc (k := 0) (lv' := [(4, .int (v4 + 1)), (0, rf G 146), (2, .int v2), (3, .int v3)]) dX6_clearInTurn_26 rfl ci_1 rfl rfl ?_
    refine s_goto (tgt := 11) dX6_clearInTurn_29 (by decide) ?_
    exact s_sub [0, 1, 2, 3] rfl (hq11 (v4 + 1) M9)
theorem tX6_clearInTurn_L11 (l : Launch) (G : Gx) (v2 : Int32) (v3 : Int32) : ∀ (n : Nat) (v4 : Int32) (M : Mm), Sim cQi l layC G 5 cX6_clearInTurn RX6 6 (some .int) 11 [(4, .int v4), (0, rf G 146), (2, .int v2), (3, .int v3)] [] M (fX6_clearInTurn_L11 v2 v3 n v4 M)
  | 0, _, _ => s_none
  | n + 1, v4, M => tX6_clearInTurn_L11b l G v2 v3 _ (tX6_clearInTurn_L11 l G v2 v3 n) v4 M
def fX6_clearInTurn (a1 : Int32) (a2 : Int32) (a3 : Int32) (M : Mm) : Option (Int32 × Mm) :=
  bd (fX0_startPage a1 M) fun r1 M2 =>
  fX6_clearInTurn_L11 a2 a3 FU (0 : Int32) M2
theorem mX6_clearInTurn (l : Launch) (G : Gx) (a1 : Int32) (a2 : Int32) (a3 : Int32) (M : Mm) : Mt cQi l layC G 5 yX6_clearInTurn cX6_clearInTurn 6 (some .int) [rf G 146, .int a1, .int a2, .int a3] M (fX6_clearInTurn a1 a2 a3 M) := by
  refine Mt.of2 (own := RX6) (lv := [(0, rf G 146), (1, .int a1), (2, .int a2), (3, .int a3)]) rfl (by decide +kernel) rfl rfl ?_
  unfold fX6_clearInTurn
  refine s_aload_n 0 dX6_clearInTurn_0 rfl rfl ?_
  refine g_X6_30 (q := 136) rfl rfl dX6_clearInTurn_1 ?_
  refine s_iload_n 1 dX6_clearInTurn_4 rfl rfl ?_
  refine s_call_v (s_runV (ci := 0) (rest := []) rfl rfl (mX0_startPage l G a1 M) ok_X0_startPage k_X6_69 rfl rfl rfl rfl dX6_clearInTurn_5) fun r1 M2 => ?_
  refine s_iconst (v := 0) dX6_clearInTurn_8 ci_0 ?_
  refine s_istore (lv' := [(4, .int (0 : Int32)), (0, rf G 146), (1, .int a1), (2, .int a2), (3, .int a3)]) dX6_clearInTurn_9 rfl rfl ?_
  exact s_sub [0, 1, 3, 4] rfl (tX6_clearInTurn_L11 l G a2 a3 FU (0 : Int32) M2)
theorem dX6_tryTurns_0 : decode cX6_tryTurns 0 = .ok (.aload_n 0, 1) := by decide +kernel
theorem dX6_tryTurns_1 : decode cX6_tryTurns 1 = .ok (.getfield 14, 3) := by decide +kernel
theorem dX6_tryTurns_4 : decode cX6_tryTurns 4 = .ok (.invokevirtual 34, 3) := by decide +kernel
theorem dX6_tryTurns_7 : decode cX6_tryTurns 7 = .ok (.iconst 0, 1) := by decide +kernel
theorem dX6_tryTurns_8 : decode cX6_tryTurns 8 = .ok (.istore_n 2, 1) := by decide +kernel
theorem dX6_tryTurns_9 : decode cX6_tryTurns 9 = .ok (.iload_n 2, 1) := by decide +kernel
theorem dX6_tryTurns_10 : decode cX6_tryTurns 10 = .ok (.iconst 4, 1) := by decide +kernel
theorem dX6_tryTurns_11 : decode cX6_tryTurns 11 = .ok (.if_icmp .ge 33, 3) := by decide +kernel
theorem dX6_tryTurns_14 : decode cX6_tryTurns 14 = .ok (.aload_n 0, 1) := by decide +kernel
theorem dX6_tryTurns_15 : decode cX6_tryTurns 15 = .ok (.getfield 26, 3) := by decide +kernel
theorem dX6_tryTurns_18 : decode cX6_tryTurns 18 = .ok (.getfield 37, 3) := by decide +kernel
theorem dX6_tryTurns_21 : decode cX6_tryTurns 21 = .ok (.iload_n 2, 1) := by decide +kernel
theorem dX6_tryTurns_22 : decode cX6_tryTurns 22 = .ok (.aaload, 1) := by decide +kernel
theorem dX6_tryTurns_23 : decode cX6_tryTurns 23 = .ok (.getfield 43, 3) := by decide +kernel
theorem dX6_tryTurns_26 : decode cX6_tryTurns 26 = .ok (.ifCond .le 12, 3) := by decide +kernel
theorem dX6_tryTurns_29 : decode cX6_tryTurns 29 = .ok (.aload_n 0, 1) := by decide +kernel
theorem dX6_tryTurns_30 : decode cX6_tryTurns 30 = .ok (.getfield 14, 3) := by decide +kernel
theorem dX6_tryTurns_33 : decode cX6_tryTurns 33 = .ok (.iload_n 2, 1) := by decide +kernel
theorem dX6_tryTurns_34 : decode cX6_tryTurns 34 = .ok (.invokevirtual 47, 3) := by decide +kernel
theorem dX6_tryTurns_37 : decode cX6_tryTurns 37 = .ok (.pop, 1) := by decide +kernel
theorem dX6_tryTurns_38 : decode cX6_tryTurns 38 = .ok (.iinc 2 1, 3) := by decide +kernel
theorem dX6_tryTurns_41 : decode cX6_tryTurns 41 = .ok (.goto (-32), 3) := by decide +kernel
theorem dX6_tryTurns_44 : decode cX6_tryTurns 44 = .ok (.aload_n 0, 1) := by decide +kernel
theorem dX6_tryTurns_45 : decode cX6_tryTurns 45 = .ok (.getfield 20, 3) := by decide +kernel
theorem dX6_tryTurns_48 : decode cX6_tryTurns 48 = .ok (.invokevirtual 34, 3) := by decide +kernel
theorem dX6_tryTurns_51 : decode cX6_tryTurns 51 = .ok (.iconst 0, 1) := by decide +kernel
theorem dX6_tryTurns_52 : decode cX6_tryTurns 52 = .ok (.istore_n 2, 1) := by decide +kernel
theorem dX6_tryTurns_53 : decode cX6_tryTurns 53 = .ok (.iload_n 2, 1) := by decide +kernel
theorem dX6_tryTurns_54 : decode cX6_tryTurns 54 = .ok (.aload_n 0, 1) := by decide +kernel
theorem dX6_tryTurns_55 : decode cX6_tryTurns 55 = .ok (.getfield 14, 3) := by decide +kernel
theorem dX6_tryTurns_58 : decode cX6_tryTurns 58 = .ok (.getfield 43, 3) := by decide +kernel
theorem dX6_tryTurns_61 : decode cX6_tryTurns 61 = .ok (.if_icmp .ge 50, 3) := by decide +kernel
theorem dX6_tryTurns_64 : decode cX6_tryTurns 64 = .ok (.iconst 0, 1) := by decide +kernel
theorem dX6_tryTurns_65 : decode cX6_tryTurns 65 = .ok (.istore_n 3, 1) := by decide +kernel
theorem dX6_tryTurns_66 : decode cX6_tryTurns 66 = .ok (.iload_n 3, 1) := by decide +kernel
theorem dX6_tryTurns_67 : decode cX6_tryTurns 67 = .ok (.aload_n 0, 1) := by decide +kernel
theorem dX6_tryTurns_68 : decode cX6_tryTurns 68 = .ok (.getfield 14, 3) := by decide +kernel
theorem dX6_tryTurns_71 : decode cX6_tryTurns 71 = .ok (.getfield 43, 3) := by decide +kernel
theorem dX6_tryTurns_74 : decode cX6_tryTurns 74 = .ok (.if_icmp .ge 31, 3) := by decide +kernel
theorem dX6_tryTurns_77 : decode cX6_tryTurns 77 = .ok (.aload_n 0, 1) := by decide +kernel
theorem dX6_tryTurns_78 : decode cX6_tryTurns 78 = .ok (.getfield 20, 3) := by decide +kernel
theorem dX6_tryTurns_81 : decode cX6_tryTurns 81 = .ok (.aload_n 0, 1) := by decide +kernel
theorem dX6_tryTurns_82 : decode cX6_tryTurns 82 = .ok (.aload_n 0, 1) := by decide +kernel
theorem dX6_tryTurns_83 : decode cX6_tryTurns 83 = .ok (.getfield 14, 3) := by decide +kernel
theorem dX6_tryTurns_86 : decode cX6_tryTurns 86 = .ok (.iload_n 2, 1) := by decide +kernel
theorem dX6_tryTurns_87 : decode cX6_tryTurns 87 = .ok (.invokevirtual 51, 3) := by decide +kernel
theorem dX6_tryTurns_90 : decode cX6_tryTurns 90 = .ok (.iload_n 3, 1) := by decide +kernel
theorem dX6_tryTurns_91 : decode cX6_tryTurns 91 = .ok (.iload_n 1, 1) := by decide +kernel
theorem dX6_tryTurns_92 : decode cX6_tryTurns 92 = .ok (.invokevirtual 55, 3) := by decide +kernel
theorem dX6_tryTurns_95 : decode cX6_tryTurns 95 = .ok (.invokevirtual 47, 3) := by decide +kernel
theorem dX6_tryTurns_98 : decode cX6_tryTurns 98 = .ok (.pop, 1) := by decide +kernel
theorem dX6_tryTurns_99 : decode cX6_tryTurns 99 = .ok (.iinc 3 1, 3) := by decide +kernel
theorem dX6_tryTurns_102 : decode cX6_tryTurns 102 = .ok (.goto (-36), 3) := by decide +kernel
theorem dX6_tryTurns_105 : decode cX6_tryTurns 105 = .ok (.iinc 2 1, 3) := by decide +kernel
theorem dX6_tryTurns_108 : decode cX6_tryTurns 108 = .ok (.goto (-55), 3) := by decide +kernel
theorem dX6_tryTurns_111 : decode cX6_tryTurns 111 = .ok (.return_, 1) := by decide +kernel
def fX6_tryTurns_B111 (M : Mm) : Option (Unit × Mm) :=
  some ((), M)
theorem tX6_tryTurns_B111 (l : Launch) (G : Gx) (M : Mm) : Sim cQv l layC G 6 cX6_tryTurns RX6 4 none 111 [] [] M (fX6_tryTurns_B111 M) := by
  unfold fX6_tryTurns_B111
  exact s_vret rfl dX6_tryTurns_111
def fX6_tryTurns_B105 (q53 : Int32 → Mm → Option (Unit × Mm)) (v2 : Int32) (v1 : Int32) (M : Mm) : Option (Unit × Mm) :=
  q53 (v2 + 1) M
theorem tX6_tryTurns_B105 (l : Launch) (G : Gx) (v2 : Int32) (v1 : Int32) (q53 : Int32 → Mm → Option (Unit × Mm)) (hq53 : ∀ (v2 : Int32) (M : Mm), Sim cQv l layC G 6 cX6_tryTurns RX6 4 none 53 [(2, .int v2), (0, rf G 146), (1, .int v1)] [] M (q53 v2 M)) (M : Mm) : Sim cQv l layC G 6 cX6_tryTurns RX6 4 none 105 [(2, .int v2), (0, rf G 146), (1, .int v1)] [] M (fX6_tryTurns_B105 q53 v2 v1 M) := by
  unfold fX6_tryTurns_B105
  refine s_iinc (k := 0) (lv' := [(2, .int (v2 + 1)), (0, rf G 146), (1, .int v1)]) dX6_tryTurns_105 rfl ci_1 rfl rfl ?_
  refine s_goto (tgt := 53) dX6_tryTurns_108 (by decide) ?_
  exact s_sub [0, 1, 2] rfl (hq53 (v2 + 1) M)
def fX6_tryTurns_L66b (q53 : Int32 → Mm → Option (Unit × Mm)) (v2 : Int32) (v1 : Int32) (q66 : Int32 → Mm → Option (Unit × Mm)) (v3 : Int32) (M : Mm) : Option (Unit × Mm) :=
  if (M 147 1) ≤ v3 then (fX6_tryTurns_B105 q53 v2 v1 M)
  else bd (fX5_at 147 v2 M) fun r5 M6 =>
  bd (fX6_clearInTurn r5 v3 v1 M6) fun r7 M8 =>
  bd (fX5_add 149 r7 M8) fun r9 M10 =>
  q66 (v3 + 1) M10
def fX6_tryTurns_L66 (q53 : Int32 → Mm → Option (Unit × Mm)) (v2 : Int32) (v1 : Int32) : Nat → Int32 → Mm → Option (Unit × Mm)
  | 0 => fun _ _ => none
  | n + 1 => fX6_tryTurns_L66b q53 v2 v1 (fX6_tryTurns_L66 q53 v2 v1 n)
theorem tX6_tryTurns_L66b (l : Launch) (G : Gx) (v2 : Int32) (v1 : Int32) (q53 : Int32 → Mm → Option (Unit × Mm)) (hq53 : ∀ (v2 : Int32) (M : Mm), Sim cQv l layC G 6 cX6_tryTurns RX6 4 none 53 [(2, .int v2), (0, rf G 146), (1, .int v1)] [] M (q53 v2 M)) (q66 : Int32 → Mm → Option (Unit × Mm)) (hq66 : ∀ (v3 : Int32) (M : Mm), Sim cQv l layC G 6 cX6_tryTurns RX6 4 none 66 [(3, .int v3), (2, .int v2), (0, rf G 146), (1, .int v1)] [] M (q66 v3 M)) (v3 : Int32) (M : Mm) : Sim cQv l layC G 6 cX6_tryTurns RX6 4 none 66 [(3, .int v3), (2, .int v2), (0, rf G 146), (1, .int v1)] [] M (fX6_tryTurns_L66b q53 v2 v1 q66 v3 M) := by
  unfold fX6_tryTurns_L66b
  refine s_iload_n 0 dX6_tryTurns_66 rfl rfl ?_
  refine s_aload_n 2 dX6_tryTurns_67 rfl rfl ?_
  refine g_X6_14 (q := 147) rfl rfl dX6_tryTurns_68 ?_
  refine g_X6_43 rfl dX6_tryTurns_71 ?_
  refine s_icmpge (tgt := 105) dX6_tryTurns_74 (by decide) ?_ ?_
  · exact s_sub [1, 2, 3] rfl (tX6_tryTurns_B105 l G v2 v1 q53 hq53 M)
  · refine s_aload_n 2 dX6_tryTurns_77 rfl rfl ?_
    refine g_X6_20 (q := 149) rfl rfl dX6_tryTurns_78 ?_
    refine s_aload_n 2 dX6_tryTurns_81 rfl rfl ?_
    refine s_aload_n 2 dX6_tryTurns_82 rfl rfl ?_
    refine g_X6_14 (q := 147) rfl rfl dX6_tryTurns_83 ?_
    refine s_iload_n 1 dX6_tryTurns_86 rfl rfl ?_
    refine s_call_i (s_runV (ci := 5) (rest := [rf G 146, rf G 149]) rfl rfl (mX5_at l G 147 v2 M) ok_X5_at k_X6_51 rfl rfl rfl rfl dX6_tryTurns_87) fun r5 M6 => ?_
    refine s_iload_n 0 dX6_tryTurns_90 rfl rfl ?_
    refine s_iload_n 3 dX6_tryTurns_91 rfl rfl ?_
    refine s_call_i (s_runV (ci := 6) (rest := [rf G 149]) rfl rfl (mX6_clearInTurn l G r5 v3 v1 M6) ok_X6_clearInTurn k_X6_55 rfl rfl rfl rfl dX6_tryTurns_92) fun r7 M8 => ?_
    refine s_call_z (s_runV (ci := 5) (rest := []) rfl rfl (mX5_add l G 149 r7 M8) ok_X5_add k_X6_47 rfl rfl rfl rfl dX6_tryTurns_95) fun r9 M10 => ?_
    refine s_pop dX6_tryTurns_98 rfl ?_
    refine s_iinc (k := 0) (lv' := [(3, .int (v3 + 1)), (2, .int v2), (0, rf G 146), (1, .int v1)]) dX6_tryTurns_99 rfl ci_1 rfl rfl ?_
    refine s_goto (tgt := 66) dX6_tryTurns_102 (by decide) ?_
    exact s_sub [0, 1, 2, 3] rfl (hq66 (v3 + 1) M10)
theorem tX6_tryTurns_L66 (l : Launch) (G : Gx) (v2 : Int32) (v1 : Int32) (q53 : Int32 → Mm → Option (Unit × Mm)) (hq53 : ∀ (v2 : Int32) (M : Mm), Sim cQv l layC G 6 cX6_tryTurns RX6 4 none 53 [(2, .int v2), (0, rf G 146), (1, .int v1)] [] M (q53 v2 M)) : ∀ (n : Nat) (v3 : Int32) (M : Mm), Sim cQv l layC G 6 cX6_tryTurns RX6 4 none 66 [(3, .int v3), (2, .int v2), (0, rf G 146), (1, .int v1)] [] M (fX6_tryTurns_L66 q53 v2 v1 n v3 M)
  | 0, _, _ => s_none
  | n + 1, v3, M => tX6_tryTurns_L66b l G v2 v1 q53 hq53 _ (tX6_tryTurns_L66 l G v2 v1 q53 hq53 n) v3 M
def fX6_tryTurns_L53b (v1 : Int32) (q53 : Int32 → Mm → Option (Unit × Mm)) (v2 : Int32) (M : Mm) : Option (Unit × Mm) :=
  if (M 147 1) ≤ v2 then (fX6_tryTurns_B111 M)
  else fX6_tryTurns_L66 q53 v2 v1 FU (0 : Int32) M
def fX6_tryTurns_L53 (v1 : Int32) : Nat → Int32 → Mm → Option (Unit × Mm)
  | 0 => fun _ _ => none
  | n + 1 => fX6_tryTurns_L53b v1 (fX6_tryTurns_L53 v1 n)
theorem tX6_tryTurns_L53b (l : Launch) (G : Gx) (v1 : Int32) (q53 : Int32 → Mm → Option (Unit × Mm)) (hq53 : ∀ (v2 : Int32) (M : Mm), Sim cQv l layC G 6 cX6_tryTurns RX6 4 none 53 [(2, .int v2), (0, rf G 146), (1, .int v1)] [] M (q53 v2 M)) (v2 : Int32) (M : Mm) : Sim cQv l layC G 6 cX6_tryTurns RX6 4 none 53 [(2, .int v2), (0, rf G 146), (1, .int v1)] [] M (fX6_tryTurns_L53b v1 q53 v2 M) := by
  unfold fX6_tryTurns_L53b
  refine s_iload_n 0 dX6_tryTurns_53 rfl rfl ?_
  refine s_aload_n 1 dX6_tryTurns_54 rfl rfl ?_
  refine g_X6_14 (q := 147) rfl rfl dX6_tryTurns_55 ?_
  refine g_X6_43 rfl dX6_tryTurns_58 ?_
  refine s_icmpge (tgt := 111) dX6_tryTurns_61 (by decide) ?_ ?_
  · exact s_sub [] rfl (tX6_tryTurns_B111 l G M)
  · refine s_iconst (v := 0) dX6_tryTurns_64 ci_0 ?_
    refine s_istore_n (lv' := [(3, .int (0 : Int32)), (2, .int v2), (0, rf G 146), (1, .int v1)]) dX6_tryTurns_65 rfl rfl rfl ?_
    exact s_sub [0, 1, 2, 3] rfl (tX6_tryTurns_L66 l G v2 v1 q53 hq53 FU (0 : Int32) M)
theorem tX6_tryTurns_L53 (l : Launch) (G : Gx) (v1 : Int32) : ∀ (n : Nat) (v2 : Int32) (M : Mm), Sim cQv l layC G 6 cX6_tryTurns RX6 4 none 53 [(2, .int v2), (0, rf G 146), (1, .int v1)] [] M (fX6_tryTurns_L53 v1 n v2 M)
  | 0, _, _ => s_none
  | n + 1, v2, M => tX6_tryTurns_L53b l G v1 _ (tX6_tryTurns_L53 l G v1 n) v2 M
def fX6_tryTurns_B44 (v1 : Int32) (M : Mm) : Option (Unit × Mm) :=
  bd (fX5_clear 149 M) fun r3 M4 =>
  fX6_tryTurns_L53 v1 FU (0 : Int32) M4
theorem tX6_tryTurns_B44 (l : Launch) (G : Gx) (v1 : Int32) (M : Mm) : Sim cQv l layC G 6 cX6_tryTurns RX6 4 none 44 [(0, rf G 146), (1, .int v1)] [] M (fX6_tryTurns_B44 v1 M) := by
  unfold fX6_tryTurns_B44
  refine s_aload_n 0 dX6_tryTurns_44 rfl rfl ?_
  refine g_X6_20 (q := 149) rfl rfl dX6_tryTurns_45 ?_
  refine s_call_v (s_runV (ci := 5) (rest := []) rfl rfl (mX5_clear l G 149 M) ok_X5_clear k_X6_34 rfl rfl rfl rfl dX6_tryTurns_48) fun r3 M4 => ?_
  refine s_iconst (v := 0) dX6_tryTurns_51 ci_0 ?_
  refine s_istore_n (lv' := [(2, .int (0 : Int32)), (0, rf G 146), (1, .int v1)]) dX6_tryTurns_52 rfl rfl rfl ?_
  exact s_sub [0, 1, 2] rfl (tX6_tryTurns_L53 l G v1 FU (0 : Int32) M4)
def fX6_tryTurns_B38 (q9 : Int32 → Mm → Option (Unit × Mm)) (v2 : Int32) (v1 : Int32) (M : Mm) : Option (Unit × Mm) :=
  q9 (v2 + 1) M
theorem tX6_tryTurns_B38 (l : Launch) (G : Gx) (v2 : Int32) (v1 : Int32) (q9 : Int32 → Mm → Option (Unit × Mm)) (hq9 : ∀ (v2 : Int32) (M : Mm), Sim cQv l layC G 6 cX6_tryTurns RX6 4 none 9 [(2, .int v2), (0, rf G 146), (1, .int v1)] [] M (q9 v2 M)) (M : Mm) : Sim cQv l layC G 6 cX6_tryTurns RX6 4 none 38 [(2, .int v2), (0, rf G 146), (1, .int v1)] [] M (fX6_tryTurns_B38 q9 v2 v1 M) := by
  unfold fX6_tryTurns_B38
  refine s_iinc (k := 0) (lv' := [(2, .int (v2 + 1)), (0, rf G 146), (1, .int v1)]) dX6_tryTurns_38 rfl ci_1 rfl rfl ?_
  refine s_goto (tgt := 9) dX6_tryTurns_41 (by decide) ?_
  exact s_sub [0, 1, 2] rfl (hq9 (v2 + 1) M)
def fX6_tryTurns_L9b (v1 : Int32) (q9 : Int32 → Mm → Option (Unit × Mm)) (v2 : Int32) (M : Mm) : Option (Unit × Mm) :=
  if (4 : Int32) ≤ v2 then (fX6_tryTurns_B44 v1 M)
  else gd (inb v2 4) <|
  gd (isC layC (29 + 2 * ix v2) 5) <|
  if (M (29 + 2 * ix v2) 1) ≤ 0 then (fX6_tryTurns_B38 q9 v2 v1 M)
  else bd (fX5_add 147 v2 M) fun r13 M14 =>
  fX6_tryTurns_B38 q9 v2 v1 M14
def fX6_tryTurns_L9 (v1 : Int32) : Nat → Int32 → Mm → Option (Unit × Mm)
  | 0 => fun _ _ => none
  | n + 1 => fX6_tryTurns_L9b v1 (fX6_tryTurns_L9 v1 n)
theorem tX6_tryTurns_L9b (l : Launch) (G : Gx) (v1 : Int32) (q9 : Int32 → Mm → Option (Unit × Mm)) (hq9 : ∀ (v2 : Int32) (M : Mm), Sim cQv l layC G 6 cX6_tryTurns RX6 4 none 9 [(2, .int v2), (0, rf G 146), (1, .int v1)] [] M (q9 v2 M)) (v2 : Int32) (M : Mm) : Sim cQv l layC G 6 cX6_tryTurns RX6 4 none 9 [(2, .int v2), (0, rf G 146), (1, .int v1)] [] M (fX6_tryTurns_L9b v1 q9 v2 M) := by
  unfold fX6_tryTurns_L9b
  refine s_iload_n 0 dX6_tryTurns_9 rfl rfl ?_
  refine s_iconst (v := 4) dX6_tryTurns_10 ci_4 ?_
  refine s_icmpge (tgt := 44) dX6_tryTurns_11 (by decide) ?_ ?_
  · exact s_sub [1, 2] rfl (tX6_tryTurns_B44 l G v1 M)
  · refine s_aload_n 1 dX6_tryTurns_14 rfl rfl ?_
    refine g_X6_26 (q := 0) rfl rfl dX6_tryTurns_15 ?_
    refine g_X6_37 (q := 28) rfl rfl dX6_tryTurns_18 ?_
    refine s_iload_n 0 dX6_tryTurns_21 rfl rfl ?_
    refine s_gd fun h11 => ?_
    refine s_aald (t := 2) (bs := 29) (sd := 2) (n := 4) rfl rfl h11 dX6_tryTurns_22 ?_
    refine s_gd fun h12 => ?_
    refine g_X6_43 h12 dX6_tryTurns_23 ?_
    refine s_ifle (tgt := 38) dX6_tryTurns_26 (by decide) ?_ ?_
    · exact s_sub [0, 1, 2] rfl (tX6_tryTurns_B38 l G v2 v1 q9 hq9 M)
    · refine s_aload_n 1 dX6_tryTurns_29 rfl rfl ?_
      refine g_X6_14 (q := 147) rfl rfl dX6_tryTurns_30 ?_
      refine s_iload_n 0 dX6_tryTurns_33 rfl rfl ?_
      refine s_call_z (s_runV (ci := 5) (rest := []) rfl rfl (mX5_add l G 147 v2 M) ok_X5_add k_X6_47 rfl rfl rfl rfl dX6_tryTurns_34) fun r13 M14 => ?_
      refine s_pop dX6_tryTurns_37 rfl ?_
      exact s_sub [0, 1, 2] rfl (tX6_tryTurns_B38 l G v2 v1 q9 hq9 M14)
theorem tX6_tryTurns_L9 (l : Launch) (G : Gx) (v1 : Int32) : ∀ (n : Nat) (v2 : Int32) (M : Mm), Sim cQv l layC G 6 cX6_tryTurns RX6 4 none 9 [(2, .int v2), (0, rf G 146), (1, .int v1)] [] M (fX6_tryTurns_L9 v1 n v2 M)
  | 0, _, _ => s_none
  | n + 1, v2, M => tX6_tryTurns_L9b l G v1 _ (tX6_tryTurns_L9 l G v1 n) v2 M
def fX6_tryTurns (a1 : Int32) (M : Mm) : Option (Unit × Mm) :=
  bd (fX5_clear 147 M) fun r1 M2 =>
  fX6_tryTurns_L9 a1 FU (0 : Int32) M2
theorem mX6_tryTurns (l : Launch) (G : Gx) (a1 : Int32) (M : Mm) : Mt cQv l layC G 6 yX6_tryTurns cX6_tryTurns 4 none [rf G 146, .int a1] M (fX6_tryTurns a1 M) := by
  refine Mt.of2 (own := RX6) (lv := [(0, rf G 146), (1, .int a1)]) rfl (by decide +kernel) rfl rfl ?_
  unfold fX6_tryTurns
  refine s_aload_n 0 dX6_tryTurns_0 rfl rfl ?_
  refine g_X6_14 (q := 147) rfl rfl dX6_tryTurns_1 ?_
  refine s_call_v (s_runV (ci := 5) (rest := []) rfl rfl (mX5_clear l G 147 M) ok_X5_clear k_X6_34 rfl rfl rfl rfl dX6_tryTurns_4) fun r1 M2 => ?_
  refine s_iconst (v := 0) dX6_tryTurns_7 ci_0 ?_
  refine s_istore_n (lv' := [(2, .int (0 : Int32)), (0, rf G 146), (1, .int a1)]) dX6_tryTurns_8 rfl rfl rfl ?_
  exact s_sub [0, 1, 2] rfl (tX6_tryTurns_L9 l G a1 FU (0 : Int32) M2)
theorem dX6_chosen_0 : decode cX6_chosen 0 = .ok (.iload_n 0, 1) := by decide +kernel
theorem dX6_chosen_1 : decode cX6_chosen 1 = .ok (.iconst 2, 1) := by decide +kernel
theorem dX6_chosen_2 : decode cX6_chosen 2 = .ok (.iload_n 2, 1) := by decide +kernel
theorem dX6_chosen_3 : decode cX6_chosen 3 = .ok (.iconst 1, 1) := by decide +kernel
theorem dX6_chosen_4 : decode cX6_chosen 4 = .ok (.isub, 1) := by decide +kernel
theorem dX6_chosen_5 : decode cX6_chosen 5 = .ok (.iload_n 1, 1) := by decide +kernel
theorem dX6_chosen_6 : decode cX6_chosen 6 = .ok (.isub, 1) := by decide +kernel
theorem dX6_chosen_7 : decode cX6_chosen 7 = .ok (.imul, 1) := by decide +kernel
theorem dX6_chosen_8 : decode cX6_chosen 8 = .ok (.ishr, 1) := by decide +kernel
theorem dX6_chosen_9 : decode cX6_chosen 9 = .ok (.iconst 3, 1) := by decide +kernel
theorem dX6_chosen_10 : decode cX6_chosen 10 = .ok (.iand, 1) := by decide +kernel
theorem dX6_chosen_11 : decode cX6_chosen 11 = .ok (.ireturn, 1) := by decide +kernel
def fX6_chosen (a1 : Int32) (a2 : Int32) (a3 : Int32) (M : Mm) : Option (Int32 × Mm) :=
  some ((a1 >>> (((2 : Int32) * ((a3 - (1 : Int32)) - a2)) &&& 31)) &&& (3 : Int32), M)
theorem mX6_chosen (l : Launch) (G : Gx) (a1 : Int32) (a2 : Int32) (a3 : Int32) (M : Mm) : Mt cQi l layC G 1 yX6_chosen cX6_chosen 3 (some .int) [.int a1, .int a2, .int a3] M (fX6_chosen a1 a2 a3 M) := by
  refine Mt.of2 (own := RX6) (lv := [(0, .int a1), (1, .int a2), (2, .int a3)]) rfl (by decide +kernel) rfl rfl ?_
  unfold fX6_chosen
  refine s_iload_n 0 dX6_chosen_0 rfl rfl ?_
  refine s_iconst (v := 2) dX6_chosen_1 ci_2 ?_
  refine s_iload_n 2 dX6_chosen_2 rfl rfl ?_
  refine s_iconst (v := 1) dX6_chosen_3 ci_1 ?_
  refine s_isub dX6_chosen_4 ?_
  refine s_iload_n 1 dX6_chosen_5 rfl rfl ?_
  refine s_isub dX6_chosen_6 ?_
  refine s_imul dX6_chosen_7 ?_
  refine s_ishr dX6_chosen_8 ?_
  refine s_iconst (v := 3) dX6_chosen_9 ci_3 ?_
  refine s_iand dX6_chosen_10 ?_
  exact s_iret rfl dX6_chosen_11
theorem dX6_clearOfRow_0 : decode cX6_clearOfRow 0 = .ok (.iconst 0, 1) := by decide +kernel
theorem dX6_clearOfRow_1 : decode cX6_clearOfRow 1 = .ok (.istore_n 3, 1) := by decide +kernel
theorem dX6_clearOfRow_2 : decode cX6_clearOfRow 2 = .ok (.iconst 0, 1) := by decide +kernel
theorem dX6_clearOfRow_3 : decode cX6_clearOfRow 3 = .ok (.istore 4, 2) := by decide +kernel
theorem dX6_clearOfRow_5 : decode cX6_clearOfRow 5 = .ok (.iconst 0, 1) := by decide +kernel
theorem dX6_clearOfRow_6 : decode cX6_clearOfRow 6 = .ok (.istore 5, 2) := by decide +kernel
theorem dX6_clearOfRow_8 : decode cX6_clearOfRow 8 = .ok (.iload 5, 2) := by decide +kernel
theorem dX6_clearOfRow_10 : decode cX6_clearOfRow 10 = .ok (.iload_n 2, 1) := by decide +kernel
theorem dX6_clearOfRow_11 : decode cX6_clearOfRow 11 = .ok (.if_icmp .ge 62, 3) := by decide +kernel
theorem dX6_clearOfRow_14 : decode cX6_clearOfRow 14 = .ok (.iload_n 1, 1) := by decide +kernel
theorem dX6_clearOfRow_15 : decode cX6_clearOfRow 15 = .ok (.iload 5, 2) := by decide +kernel
theorem dX6_clearOfRow_17 : decode cX6_clearOfRow 17 = .ok (.iload_n 2, 1) := by decide +kernel
theorem dX6_clearOfRow_18 : decode cX6_clearOfRow 18 = .ok (.invokestatic 66, 3) := by decide +kernel
theorem dX6_clearOfRow_21 : decode cX6_clearOfRow 21 = .ok (.istore 6, 2) := by decide +kernel
theorem dX6_clearOfRow_23 : decode cX6_clearOfRow 23 = .ok (.iload 6, 2) := by decide +kernel
theorem dX6_clearOfRow_25 : decode cX6_clearOfRow 25 = .ok (.iload_n 2, 1) := by decide +kernel
theorem dX6_clearOfRow_26 : decode cX6_clearOfRow 26 = .ok (.if_icmp .ge 13, 3) := by decide +kernel
theorem dX6_clearOfRow_29 : decode cX6_clearOfRow 29 = .ok (.iload 4, 2) := by decide +kernel
theorem dX6_clearOfRow_31 : decode cX6_clearOfRow 31 = .ok (.iconst 1, 1) := by decide +kernel
theorem dX6_clearOfRow_32 : decode cX6_clearOfRow 32 = .ok (.iload 6, 2) := by decide +kernel
theorem dX6_clearOfRow_34 : decode cX6_clearOfRow 34 = .ok (.ishl, 1) := by decide +kernel
theorem dX6_clearOfRow_35 : decode cX6_clearOfRow 35 = .ok (.iand, 1) := by decide +kernel
theorem dX6_clearOfRow_36 : decode cX6_clearOfRow 36 = .ok (.ifCond .eq 5, 3) := by decide +kernel
theorem dX6_clearOfRow_39 : decode cX6_clearOfRow 39 = .ok (.iconst (-1), 1) := by decide +kernel
theorem dX6_clearOfRow_40 : decode cX6_clearOfRow 40 = .ok (.ireturn, 1) := by decide +kernel
theorem dX6_clearOfRow_41 : decode cX6_clearOfRow 41 = .ok (.iload 4, 2) := by decide +kernel
theorem dX6_clearOfRow_43 : decode cX6_clearOfRow 43 = .ok (.iconst 1, 1) := by decide +kernel
theorem dX6_clearOfRow_44 : decode cX6_clearOfRow 44 = .ok (.iload 6, 2) := by decide +kernel
theorem dX6_clearOfRow_46 : decode cX6_clearOfRow 46 = .ok (.ishl, 1) := by decide +kernel
theorem dX6_clearOfRow_47 : decode cX6_clearOfRow 47 = .ok (.ior, 1) := by decide +kernel
theorem dX6_clearOfRow_48 : decode cX6_clearOfRow 48 = .ok (.istore 4, 2) := by decide +kernel
theorem dX6_clearOfRow_50 : decode cX6_clearOfRow 50 = .ok (.iload_n 3, 1) := by decide +kernel
theorem dX6_clearOfRow_51 : decode cX6_clearOfRow 51 = .ok (.aload_n 0, 1) := by decide +kernel
theorem dX6_clearOfRow_52 : decode cX6_clearOfRow 52 = .ok (.getfield 20, 3) := by decide +kernel
theorem dX6_clearOfRow_55 : decode cX6_clearOfRow 55 = .ok (.iload 6, 2) := by decide +kernel
theorem dX6_clearOfRow_57 : decode cX6_clearOfRow 57 = .ok (.iload_n 2, 1) := by decide +kernel
theorem dX6_clearOfRow_58 : decode cX6_clearOfRow 58 = .ok (.imul, 1) := by decide +kernel
theorem dX6_clearOfRow_59 : decode cX6_clearOfRow 59 = .ok (.iload 5, 2) := by decide +kernel
theorem dX6_clearOfRow_61 : decode cX6_clearOfRow 61 = .ok (.iadd, 1) := by decide +kernel
theorem dX6_clearOfRow_62 : decode cX6_clearOfRow 62 = .ok (.invokevirtual 51, 3) := by decide +kernel
theorem dX6_clearOfRow_65 : decode cX6_clearOfRow 65 = .ok (.iadd, 1) := by decide +kernel
theorem dX6_clearOfRow_66 : decode cX6_clearOfRow 66 = .ok (.istore_n 3, 1) := by decide +kernel
theorem dX6_clearOfRow_67 : decode cX6_clearOfRow 67 = .ok (.iinc 5 1, 3) := by decide +kernel
theorem dX6_clearOfRow_70 : decode cX6_clearOfRow 70 = .ok (.goto (-62), 3) := by decide +kernel
theorem dX6_clearOfRow_73 : decode cX6_clearOfRow 73 = .ok (.iload_n 3, 1) := by decide +kernel
theorem dX6_clearOfRow_74 : decode cX6_clearOfRow 74 = .ok (.ireturn, 1) := by decide +kernel
def fX6_clearOfRow_B73 (v3 : Int32) (M : Mm) : Option (Int32 × Mm) :=
  some (v3, M)
theorem tX6_clearOfRow_B73 (l : Launch) (G : Gx) (v3 : Int32) (M : Mm) : Sim cQi l layC G 3 cX6_clearOfRow RX6 7 (some .int) 73 [(3, .int v3)] [] M (fX6_clearOfRow_B73 v3 M) := by
  unfold fX6_clearOfRow_B73
  refine s_iload_n 0 dX6_clearOfRow_73 rfl rfl ?_
  exact s_iret rfl dX6_clearOfRow_74
def fX6_clearOfRow_B39 (M : Mm) : Option (Int32 × Mm) :=
  some ((-1 : Int32), M)
theorem tX6_clearOfRow_B39 (l : Launch) (G : Gx) (M : Mm) : Sim cQi l layC G 3 cX6_clearOfRow RX6 7 (some .int) 39 [] [] M (fX6_clearOfRow_B39 M) := by
  unfold fX6_clearOfRow_B39
  refine s_iconst (v := -1) dX6_clearOfRow_39 ci_m1 ?_
  exact s_iret rfl dX6_clearOfRow_40
def fX6_clearOfRow_L8b (v1 : Int32) (v2 : Int32) (q8 : Int32 → Int32 → Int32 → Mm → Option (Int32 × Mm)) (v5 : Int32) (v4 : Int32) (v3 : Int32) (M : Mm) : Option (Int32 × Mm) :=
  if v2 ≤ v5 then (fX6_clearOfRow_B73 v3 M)
  else bd (fX6_chosen v1 v5 v2 M) fun r1 M2 =>
  if v2 ≤ r1 then (fX6_clearOfRow_B39 M2)
  else if (v4 &&& ((1 : Int32) <<< (r1 &&& 31))) = 0 then (lt (v4 ||| ((1 : Int32) <<< (r1 &&& 31))) fun x3 =>
  bd (fX5_at 149 ((r1 * v2) + v5) M2) fun r4 M5 =>
  lt (v3 + r4) fun x6 =>
  q8 (v5 + 1) x3 x6 M5)
  else fX6_clearOfRow_B39 M2
def fX6_clearOfRow_L8 (v1 : Int32) (v2 : Int32) : Nat → Int32 → Int32 → Int32 → Mm → Option (Int32 × Mm)
  | 0 => fun _ _ _ _ => none
  | n + 1 => fX6_clearOfRow_L8b v1 v2 (fX6_clearOfRow_L8 v1 v2 n)
theorem tX6_clearOfRow_L8b (l : Launch) (G : Gx) (v1 : Int32) (v2 : Int32) (q8 : Int32 → Int32 → Int32 → Mm → Option (Int32 × Mm)) (hq8 : ∀ (v5 : Int32) (v4 : Int32) (v3 : Int32) (M : Mm), Sim cQi l layC G 3 cX6_clearOfRow RX6 7 (some .int) 8 [(5, .int v5), (4, .int v4), (3, .int v3), (0, rf G 146), (1, .int v1), (2, .int v2)] [] M (q8 v5 v4 v3 M)) (v5 : Int32) (v4 : Int32) (v3 : Int32) (M : Mm) : Sim cQi l layC G 3 cX6_clearOfRow RX6 7 (some .int) 8 [(5, .int v5), (4, .int v4), (3, .int v3), (0, rf G 146), (1, .int v1), (2, .int v2)] [] M (fX6_clearOfRow_L8b v1 v2 q8 v5 v4 v3 M) := by
  unfold fX6_clearOfRow_L8b
  refine s_iload 0 dX6_clearOfRow_8 rfl ?_
  refine s_iload_n 5 dX6_clearOfRow_10 rfl rfl ?_
  refine s_icmpge (tgt := 73) dX6_clearOfRow_11 (by decide) ?_ ?_
  · exact s_sub [2] rfl (tX6_clearOfRow_B73 l G v3 M)
  · refine s_iload_n 4 dX6_clearOfRow_14 rfl rfl ?_
    refine s_iload 0 dX6_clearOfRow_15 rfl ?_
    refine s_iload_n 5 dX6_clearOfRow_17 rfl rfl ?_
    refine s_call_i (s_runS (rest := []) (mX6_chosen l G v1 v5 v2 M) ok_X6_chosen k_X6_66 rfl rfl rfl rfl dX6_clearOfRow_18) fun r1 M2 => ?_
    refine s_istore (lv' := [(6, .int r1), (5, .int v5), (4, .int v4), (3, .int v3), (0, rf G 146), (1, .int v1), (2, .int v2)]) dX6_clearOfRow_21 rfl rfl ?_
    refine s_iload 0 dX6_clearOfRow_23 rfl ?_
    refine s_iload_n 6 dX6_clearOfRow_25 rfl rfl ?_
    refine s_icmpge (tgt := 39) dX6_clearOfRow_26 (by decide) ?_ ?_
    · exact s_sub [] rfl (tX6_clearOfRow_B39 l G M2)
    · refine s_iload 2 dX6_clearOfRow_29 rfl ?_
      refine s_iconst (v := 1) dX6_clearOfRow_31 ci_1 ?_
      refine s_iload 0 dX6_clearOfRow_32 rfl ?_
      refine s_ishl dX6_clearOfRow_34 ?_
      refine s_iand dX6_clearOfRow_35 ?_
      refine s_ifeq (tgt := 41) dX6_clearOfRow_36 (by decide) ?_ ?_
      · refine s_iload 2 dX6_clearOfRow_41 rfl ?_
        refine s_iconst (v := 1) dX6_clearOfRow_43 ci_1 ?_
        refine s_iload 0 dX6_clearOfRow_44 rfl ?_
        refine s_ishl dX6_clearOfRow_46 ?_
        refine s_ior dX6_clearOfRow_47 ?_
        refine s_leti fun x3 => ?_
        refine s_istore (lv' := [(4, .int x3), (6, .int r1), (5, .int v5), (3, .int v3), (0, rf G 146), (1, .int v1), (2, .int v2)]) dX6_clearOfRow_48 rfl rfl ?_
        refine s_iload_n 3 dX6_clearOfRow_50 rfl rfl ?_
        refine s_aload_n 4 dX6_clearOfRow_51 rfl rfl ?_
        refine g_X6_20 (q := 149) rfl rfl dX6_clearOfRow_52 ?_
        refine s_iload 1 dX6_clearOfRow_55 rfl ?_
        refine s_iload_n 6 dX6_clearOfRow_57 rfl rfl ?_
        refine s_imul dX6_clearOfRow_58 ?_
        refine s_iload 2 dX6_clearOfRow_59 rfl ?_
        refine s_iadd dX6_clearOfRow_61 ?_
        refine s_call_i (s_runV (ci := 5) (rest := [.int v3]) rfl rfl (mX5_at l G 149 ((r1 * v2) + v5) M2) ok_X5_at k_X6_51 rfl rfl rfl rfl dX6_clearOfRow_62) fun r4 M5 => ?_
        refine s_iadd dX6_clearOfRow_65 ?_
        refine s_leti fun x6 => ?_
        refine s_istore_n (lv' := [(3, .int x6), (4, .int x3), (6, .int r1), (5, .int v5), (0, rf G 146), (1, .int v1), (2, .int v2)]) dX6_clearOfRow_66 rfl rfl rfl ?_
        refine s_iinc (k := 3) (lv' := [(5, .int (v5 + 1)), (3, .int x6), (4, .int x3), (6, .int r1), (0, rf G 146), (1, .int v1), (2, .int v2)]) dX6_clearOfRow_67 rfl ci_1 rfl rfl ?_
        refine s_goto (tgt := 8) dX6_clearOfRow_70 (by decide) ?_
        exact s_sub [0, 2, 1, 4, 5, 6] rfl (hq8 (v5 + 1) x3 x6 M5)
      · exact s_sub [] rfl (tX6_clearOfRow_B39 l G M2)
theorem tX6_clearOfRow_L8 (l : Launch) (G : Gx) (v1 : Int32) (v2 : Int32) : ∀ (n : Nat) (v5 : Int32) (v4 : Int32) (v3 : Int32) (M : Mm), Sim cQi l layC G 3 cX6_clearOfRow RX6 7 (some .int) 8 [(5, .int v5), (4, .int v4), (3, .int v3), (0, rf G 146), (1, .int v1), (2, .int v2)] [] M (fX6_clearOfRow_L8 v1 v2 n v5 v4 v3 M)
  | 0, _, _, _, _ => s_none
  | n + 1, v5, v4, v3, M => tX6_clearOfRow_L8b l G v1 v2 _ (tX6_clearOfRow_L8 l G v1 v2 n) v5 v4 v3 M
def fX6_clearOfRow (a1 : Int32) (a2 : Int32) (M : Mm) : Option (Int32 × Mm) :=
  fX6_clearOfRow_L8 a1 a2 FU (0 : Int32) (0 : Int32) (0 : Int32) M
theorem mX6_clearOfRow (l : Launch) (G : Gx) (a1 : Int32) (a2 : Int32) (M : Mm) : Mt cQi l layC G 3 yX6_clearOfRow cX6_clearOfRow 7 (some .int) [rf G 146, .int a1, .int a2] M (fX6_clearOfRow a1 a2 M) := by
  refine Mt.of2 (own := RX6) (lv := [(0, rf G 146), (1, .int a1), (2, .int a2)]) rfl (by decide +kernel) rfl rfl ?_
  unfold fX6_clearOfRow
  refine s_iconst (v := 0) dX6_clearOfRow_0 ci_0 ?_
  refine s_istore_n (lv' := [(3, .int (0 : Int32)), (0, rf G 146), (1, .int a1), (2, .int a2)]) dX6_clearOfRow_1 rfl rfl rfl ?_
  refine s_iconst (v := 0) dX6_clearOfRow_2 ci_0 ?_
  refine s_istore (lv' := [(4, .int (0 : Int32)), (3, .int (0 : Int32)), (0, rf G 146), (1, .int a1), (2, .int a2)]) dX6_clearOfRow_3 rfl rfl ?_
  refine s_iconst (v := 0) dX6_clearOfRow_5 ci_0 ?_
  refine s_istore (lv' := [(5, .int (0 : Int32)), (4, .int (0 : Int32)), (3, .int (0 : Int32)), (0, rf G 146), (1, .int a1), (2, .int a2)]) dX6_clearOfRow_6 rfl rfl ?_
  exact s_sub [0, 1, 2, 3, 4, 5] rfl (tX6_clearOfRow_L8 l G a1 a2 FU (0 : Int32) (0 : Int32) (0 : Int32) M)
theorem dX6_findBest_0 : decode cX6_findBest 0 = .ok (.aload_n 0, 1) := by decide +kernel
theorem dX6_findBest_1 : decode cX6_findBest 1 = .ok (.getfield 14, 3) := by decide +kernel
theorem dX6_findBest_4 : decode cX6_findBest 4 = .ok (.getfield 43, 3) := by decide +kernel
theorem dX6_findBest_7 : decode cX6_findBest 7 = .ok (.istore_n 1, 1) := by decide +kernel
theorem dX6_findBest_8 : decode cX6_findBest 8 = .ok (.iconst 0, 1) := by decide +kernel
theorem dX6_findBest_9 : decode cX6_findBest 9 = .ok (.istore_n 2, 1) := by decide +kernel
theorem dX6_findBest_10 : decode cX6_findBest 10 = .ok (.aload_n 0, 1) := by decide +kernel
theorem dX6_findBest_11 : decode cX6_findBest 11 = .ok (.iconst (-1), 1) := by decide +kernel
theorem dX6_findBest_12 : decode cX6_findBest 12 = .ok (.putfield 59, 3) := by decide +kernel
theorem dX6_findBest_15 : decode cX6_findBest 15 = .ok (.iconst 0, 1) := by decide +kernel
theorem dX6_findBest_16 : decode cX6_findBest 16 = .ok (.istore_n 3, 1) := by decide +kernel
theorem dX6_findBest_17 : decode cX6_findBest 17 = .ok (.iload_n 3, 1) := by decide +kernel
theorem dX6_findBest_18 : decode cX6_findBest 18 = .ok (.iconst 1, 1) := by decide +kernel
theorem dX6_findBest_19 : decode cX6_findBest 19 = .ok (.iconst 2, 1) := by decide +kernel
theorem dX6_findBest_20 : decode cX6_findBest 20 = .ok (.iload_n 1, 1) := by decide +kernel
theorem dX6_findBest_21 : decode cX6_findBest 21 = .ok (.imul, 1) := by decide +kernel
theorem dX6_findBest_22 : decode cX6_findBest 22 = .ok (.ishl, 1) := by decide +kernel
theorem dX6_findBest_23 : decode cX6_findBest 23 = .ok (.if_icmp .ge 34, 3) := by decide +kernel
theorem dX6_findBest_26 : decode cX6_findBest 26 = .ok (.aload_n 0, 1) := by decide +kernel
theorem dX6_findBest_27 : decode cX6_findBest 27 = .ok (.iload_n 3, 1) := by decide +kernel
theorem dX6_findBest_28 : decode cX6_findBest 28 = .ok (.iload_n 1, 1) := by decide +kernel
theorem dX6_findBest_29 : decode cX6_findBest 29 = .ok (.invokevirtual 62, 3) := by decide +kernel
theorem dX6_findBest_32 : decode cX6_findBest 32 = .ok (.istore 4, 2) := by decide +kernel
theorem dX6_findBest_34 : decode cX6_findBest 34 = .ok (.iload 4, 2) := by decide +kernel
theorem dX6_findBest_36 : decode cX6_findBest 36 = .ok (.aload_n 0, 1) := by decide +kernel
theorem dX6_findBest_37 : decode cX6_findBest 37 = .ok (.getfield 59, 3) := by decide +kernel
theorem dX6_findBest_40 : decode cX6_findBest 40 = .ok (.if_icmp .le 11, 3) := by decide +kernel
theorem dX6_findBest_43 : decode cX6_findBest 43 = .ok (.aload_n 0, 1) := by decide +kernel
theorem dX6_findBest_44 : decode cX6_findBest 44 = .ok (.iload 4, 2) := by decide +kernel
theorem dX6_findBest_46 : decode cX6_findBest 46 = .ok (.putfield 59, 3) := by decide +kernel
theorem dX6_findBest_49 : decode cX6_findBest 49 = .ok (.iload_n 3, 1) := by decide +kernel
theorem dX6_findBest_50 : decode cX6_findBest 50 = .ok (.istore_n 2, 1) := by decide +kernel
theorem dX6_findBest_51 : decode cX6_findBest 51 = .ok (.iinc 3 1, 3) := by decide +kernel
theorem dX6_findBest_54 : decode cX6_findBest 54 = .ok (.goto (-37), 3) := by decide +kernel
theorem dX6_findBest_57 : decode cX6_findBest 57 = .ok (.aload_n 0, 1) := by decide +kernel
theorem dX6_findBest_58 : decode cX6_findBest 58 = .ok (.getfield 23, 3) := by decide +kernel
theorem dX6_findBest_61 : decode cX6_findBest 61 = .ok (.invokevirtual 34, 3) := by decide +kernel
theorem dX6_findBest_64 : decode cX6_findBest 64 = .ok (.iconst 0, 1) := by decide +kernel
theorem dX6_findBest_65 : decode cX6_findBest 65 = .ok (.istore_n 3, 1) := by decide +kernel
theorem dX6_findBest_66 : decode cX6_findBest 66 = .ok (.iload_n 3, 1) := by decide +kernel
theorem dX6_findBest_67 : decode cX6_findBest 67 = .ok (.iload_n 1, 1) := by decide +kernel
theorem dX6_findBest_68 : decode cX6_findBest 68 = .ok (.if_icmp .ge 30, 3) := by decide +kernel
theorem dX6_findBest_71 : decode cX6_findBest 71 = .ok (.aload_n 0, 1) := by decide +kernel
theorem dX6_findBest_72 : decode cX6_findBest 72 = .ok (.getfield 23, 3) := by decide +kernel
theorem dX6_findBest_75 : decode cX6_findBest 75 = .ok (.aload_n 0, 1) := by decide +kernel
theorem dX6_findBest_76 : decode cX6_findBest 76 = .ok (.getfield 14, 3) := by decide +kernel
theorem dX6_findBest_79 : decode cX6_findBest 79 = .ok (.iload_n 2, 1) := by decide +kernel
theorem dX6_findBest_80 : decode cX6_findBest 80 = .ok (.iload_n 3, 1) := by decide +kernel
theorem dX6_findBest_81 : decode cX6_findBest 81 = .ok (.iload_n 1, 1) := by decide +kernel
theorem dX6_findBest_82 : decode cX6_findBest 82 = .ok (.invokestatic 66, 3) := by decide +kernel
theorem dX6_findBest_85 : decode cX6_findBest 85 = .ok (.invokevirtual 51, 3) := by decide +kernel
theorem dX6_findBest_88 : decode cX6_findBest 88 = .ok (.invokevirtual 47, 3) := by decide +kernel
theorem dX6_findBest_91 : decode cX6_findBest 91 = .ok (.pop, 1) := by decide +kernel
theorem dX6_findBest_92 : decode cX6_findBest 92 = .ok (.iinc 3 1, 3) := by decide +kernel
theorem dX6_findBest_95 : decode cX6_findBest 95 = .ok (.goto (-29), 3) := by decide +kernel
theorem dX6_findBest_98 : decode cX6_findBest 98 = .ok (.return_, 1) := by decide +kernel
def fX6_findBest_B98 (M : Mm) : Option (Unit × Mm) :=
  some ((), M)
theorem tX6_findBest_B98 (l : Launch) (G : Gx) (M : Mm) : Sim cQv l layC G 4 cX6_findBest RX6 5 none 98 [] [] M (fX6_findBest_B98 M) := by
  unfold fX6_findBest_B98
  exact s_vret rfl dX6_findBest_98
def fX6_findBest_L66b (v2 : Int32) (v1 : Int32) (q66 : Int32 → Mm → Option (Unit × Mm)) (v3 : Int32) (M : Mm) : Option (Unit × Mm) :=
  if v1 ≤ v3 then (fX6_findBest_B98 M)
  else bd (fX6_chosen v2 v3 v1 M) fun r5 M6 =>
  bd (fX5_at 147 r5 M6) fun r7 M8 =>
  bd (fX5_add 151 r7 M8) fun r9 M10 =>
  q66 (v3 + 1) M10
def fX6_findBest_L66 (v2 : Int32) (v1 : Int32) : Nat → Int32 → Mm → Option (Unit × Mm)
  | 0 => fun _ _ => none
  | n + 1 => fX6_findBest_L66b v2 v1 (fX6_findBest_L66 v2 v1 n)
theorem tX6_findBest_L66b (l : Launch) (G : Gx) (v2 : Int32) (v1 : Int32) (q66 : Int32 → Mm → Option (Unit × Mm)) (hq66 : ∀ (v3 : Int32) (M : Mm), Sim cQv l layC G 4 cX6_findBest RX6 5 none 66 [(3, .int v3), (2, .int v2), (1, .int v1), (0, rf G 146)] [] M (q66 v3 M)) (v3 : Int32) (M : Mm) : Sim cQv l layC G 4 cX6_findBest RX6 5 none 66 [(3, .int v3), (2, .int v2), (1, .int v1), (0, rf G 146)] [] M (fX6_findBest_L66b v2 v1 q66 v3 M) := by
  unfold fX6_findBest_L66b
  refine s_iload_n 0 dX6_findBest_66 rfl rfl ?_
  refine s_iload_n 2 dX6_findBest_67 rfl rfl ?_
  refine s_icmpge (tgt := 98) dX6_findBest_68 (by decide) ?_ ?_
  · exact s_sub [] rfl (tX6_findBest_B98 l G M)
  · refine s_aload_n 3 dX6_findBest_71 rfl rfl ?_
    refine g_X6_23 (q := 151) rfl rfl dX6_findBest_72 ?_
    refine s_aload_n 3 dX6_findBest_75 rfl rfl ?_
    refine g_X6_14 (q := 147) rfl rfl dX6_findBest_76 ?_
    refine s_iload_n 1 dX6_findBest_79 rfl rfl ?_
    refine s_iload_n 0 dX6_findBest_80 rfl rfl ?_
    refine s_iload_n 2 dX6_findBest_81 rfl rfl ?_
    refine s_call_i (s_runS (rest := [rf G 147, rf G 151]) (mX6_chosen l G v2 v3 v1 M) ok_X6_chosen k_X6_66 rfl rfl rfl rfl dX6_findBest_82) fun r5 M6 => ?_
    refine s_call_i (s_runV (ci := 5) (rest := [rf G 151]) rfl rfl (mX5_at l G 147 r5 M6) ok_X5_at k_X6_51 rfl rfl rfl rfl dX6_findBest_85) fun r7 M8 => ?_
    refine s_call_z (s_runV (ci := 5) (rest := []) rfl rfl (mX5_add l G 151 r7 M8) ok_X5_add k_X6_47 rfl rfl rfl rfl dX6_findBest_88) fun r9 M10 => ?_
    refine s_pop dX6_findBest_91 rfl ?_
    refine s_iinc (k := 0) (lv' := [(3, .int (v3 + 1)), (2, .int v2), (1, .int v1), (0, rf G 146)]) dX6_findBest_92 rfl ci_1 rfl rfl ?_
    refine s_goto (tgt := 66) dX6_findBest_95 (by decide) ?_
    exact s_sub [0, 1, 2, 3] rfl (hq66 (v3 + 1) M10)
theorem tX6_findBest_L66 (l : Launch) (G : Gx) (v2 : Int32) (v1 : Int32) : ∀ (n : Nat) (v3 : Int32) (M : Mm), Sim cQv l layC G 4 cX6_findBest RX6 5 none 66 [(3, .int v3), (2, .int v2), (1, .int v1), (0, rf G 146)] [] M (fX6_findBest_L66 v2 v1 n v3 M)
  | 0, _, _ => s_none
  | n + 1, v3, M => tX6_findBest_L66b l G v2 v1 _ (tX6_findBest_L66 l G v2 v1 n) v3 M
def fX6_findBest_B57 (v2 : Int32) (v1 : Int32) (M : Mm) : Option (Unit × Mm) :=
  bd (fX5_clear 151 M) fun r3 M4 =>
  fX6_findBest_L66 v2 v1 FU (0 : Int32) M4
theorem tX6_findBest_B57 (l : Launch) (G : Gx) (v2 : Int32) (v1 : Int32) (M : Mm) : Sim cQv l layC G 4 cX6_findBest RX6 5 none 57 [(2, .int v2), (1, .int v1), (0, rf G 146)] [] M (fX6_findBest_B57 v2 v1 M) := by
  unfold fX6_findBest_B57
  refine s_aload_n 2 dX6_findBest_57 rfl rfl ?_
  refine g_X6_23 (q := 151) rfl rfl dX6_findBest_58 ?_
  refine s_call_v (s_runV (ci := 5) (rest := []) rfl rfl (mX5_clear l G 151 M) ok_X5_clear k_X6_34 rfl rfl rfl rfl dX6_findBest_61) fun r3 M4 => ?_
  refine s_iconst (v := 0) dX6_findBest_64 ci_0 ?_
  refine s_istore_n (lv' := [(3, .int (0 : Int32)), (2, .int v2), (1, .int v1), (0, rf G 146)]) dX6_findBest_65 rfl rfl rfl ?_
  exact s_sub [0, 1, 2, 3] rfl (tX6_findBest_L66 l G v2 v1 FU (0 : Int32) M4)
def fX6_findBest_B51 (q17 : Int32 → Int32 → Mm → Option (Unit × Mm)) (v3 : Int32) (v2 : Int32) (v1 : Int32) (M : Mm) : Option (Unit × Mm) :=
  q17 (v3 + 1) v2 M
theorem tX6_findBest_B51 (l : Launch) (G : Gx) (v3 : Int32) (v2 : Int32) (v1 : Int32) (q17 : Int32 → Int32 → Mm → Option (Unit × Mm)) (hq17 : ∀ (v3 : Int32) (v2 : Int32) (M : Mm), Sim cQv l layC G 4 cX6_findBest RX6 5 none 17 [(3, .int v3), (2, .int v2), (1, .int v1), (0, rf G 146)] [] M (q17 v3 v2 M)) (M : Mm) : Sim cQv l layC G 4 cX6_findBest RX6 5 none 51 [(3, .int v3), (2, .int v2), (1, .int v1), (0, rf G 146)] [] M (fX6_findBest_B51 q17 v3 v2 v1 M) := by
  unfold fX6_findBest_B51
  refine s_iinc (k := 0) (lv' := [(3, .int (v3 + 1)), (2, .int v2), (1, .int v1), (0, rf G 146)]) dX6_findBest_51 rfl ci_1 rfl rfl ?_
  refine s_goto (tgt := 17) dX6_findBest_54 (by decide) ?_
  exact s_sub [0, 1, 2, 3] rfl (hq17 (v3 + 1) v2 M)
def fX6_findBest_L17b (v1 : Int32) (q17 : Int32 → Int32 → Mm → Option (Unit × Mm)) (v3 : Int32) (v2 : Int32) (M : Mm) : Option (Unit × Mm) :=
  if ((1 : Int32) <<< (((2 : Int32) * v1) &&& 31)) ≤ v3 then (fX6_findBest_B57 v2 v1 M)
  else bd (fX6_clearOfRow v3 v1 M) fun r11 M12 =>
  if r11 ≤ (M12 146 5) then (fX6_findBest_B51 q17 v3 v2 v1 M12)
  else lt (wr M12 146 5 r11) fun M13 =>
  fX6_findBest_B51 q17 v3 v3 v1 M13
def fX6_findBest_L17 (v1 : Int32) : Nat → Int32 → Int32 → Mm → Option (Unit × Mm)
  | 0 => fun _ _ _ => none
  | n + 1 => fX6_findBest_L17b v1 (fX6_findBest_L17 v1 n)
theorem tX6_findBest_L17b (l : Launch) (G : Gx) (v1 : Int32) (q17 : Int32 → Int32 → Mm → Option (Unit × Mm)) (hq17 : ∀ (v3 : Int32) (v2 : Int32) (M : Mm), Sim cQv l layC G 4 cX6_findBest RX6 5 none 17 [(3, .int v3), (2, .int v2), (1, .int v1), (0, rf G 146)] [] M (q17 v3 v2 M)) (v3 : Int32) (v2 : Int32) (M : Mm) : Sim cQv l layC G 4 cX6_findBest RX6 5 none 17 [(3, .int v3), (2, .int v2), (1, .int v1), (0, rf G 146)] [] M (fX6_findBest_L17b v1 q17 v3 v2 M) := by
  unfold fX6_findBest_L17b
  refine s_iload_n 0 dX6_findBest_17 rfl rfl ?_
  refine s_iconst (v := 1) dX6_findBest_18 ci_1 ?_
  refine s_iconst (v := 2) dX6_findBest_19 ci_2 ?_
  refine s_iload_n 2 dX6_findBest_20 rfl rfl ?_
  refine s_imul dX6_findBest_21 ?_
  refine s_ishl dX6_findBest_22 ?_
  refine s_icmpge (tgt := 57) dX6_findBest_23 (by decide) ?_ ?_
  · exact s_sub [1, 2, 3] rfl (tX6_findBest_B57 l G v2 v1 M)
  · refine s_aload_n 3 dX6_findBest_26 rfl rfl ?_
    refine s_iload_n 0 dX6_findBest_27 rfl rfl ?_
    refine s_iload_n 2 dX6_findBest_28 rfl rfl ?_
    refine s_call_i (s_runV (ci := 6) (rest := []) rfl rfl (mX6_clearOfRow l G v3 v1 M) ok_X6_clearOfRow k_X6_62 rfl rfl rfl rfl dX6_findBest_29) fun r11 M12 => ?_
    refine s_istore (lv' := [(4, .int r11), (3, .int v3), (2, .int v2), (1, .int v1), (0, rf G 146)]) dX6_findBest_32 rfl rfl ?_
    refine s_iload 0 dX6_findBest_34 rfl ?_
    refine s_aload_n 4 dX6_findBest_36 rfl rfl ?_
    refine g_X6_59 rfl dX6_findBest_37 ?_
    refine s_icmple (tgt := 51) dX6_findBest_40 (by decide) ?_ ?_
    · exact s_sub [1, 2, 3, 4] rfl (tX6_findBest_B51 l G v3 v2 v1 q17 hq17 M12)
    · refine s_aload_n 4 dX6_findBest_43 rfl rfl ?_
      refine s_iload 0 dX6_findBest_44 rfl ?_
      refine p_X6_59 rfl dX6_findBest_46 ?_
      refine s_letM fun M13 => ?_
      refine s_iload_n 1 dX6_findBest_49 rfl rfl ?_
      refine s_istore_n (lv' := [(2, .int v3), (4, .int r11), (3, .int v3), (1, .int v1), (0, rf G 146)]) dX6_findBest_50 rfl rfl rfl ?_
      exact s_sub [2, 0, 3, 4] rfl (tX6_findBest_B51 l G v3 v3 v1 q17 hq17 M13)
theorem tX6_findBest_L17 (l : Launch) (G : Gx) (v1 : Int32) : ∀ (n : Nat) (v3 : Int32) (v2 : Int32) (M : Mm), Sim cQv l layC G 4 cX6_findBest RX6 5 none 17 [(3, .int v3), (2, .int v2), (1, .int v1), (0, rf G 146)] [] M (fX6_findBest_L17 v1 n v3 v2 M)
  | 0, _, _, _ => s_none
  | n + 1, v3, v2, M => tX6_findBest_L17b l G v1 _ (tX6_findBest_L17 l G v1 n) v3 v2 M
def fX6_findBest  (M : Mm) : Option (Unit × Mm) :=
  lt (M 147 1) fun x1 =>
  lt (wr M 146 5 (-1 : Int32)) fun M2 =>
  fX6_findBest_L17 x1 FU (0 : Int32) (0 : Int32) M2
theorem mX6_findBest (l : Launch) (G : Gx)  (M : Mm) : Mt cQv l layC G 4 yX6_findBest cX6_findBest 5 none [rf G 146] M (fX6_findBest M) := by
  refine Mt.of2 (own := RX6) (lv := [(0, rf G 146)]) rfl (by decide +kernel) rfl rfl ?_
  unfold fX6_findBest
  refine s_aload_n 0 dX6_findBest_0 rfl rfl ?_
  refine g_X6_14 (q := 147) rfl rfl dX6_findBest_1 ?_
  refine g_X6_43 rfl dX6_findBest_4 ?_
  refine s_leti fun x1 => ?_
  refine s_istore_n (lv' := [(1, .int x1), (0, rf G 146)]) dX6_findBest_7 rfl rfl rfl ?_
  refine s_iconst (v := 0) dX6_findBest_8 ci_0 ?_
  refine s_istore_n (lv' := [(2, .int (0 : Int32)), (1, .int x1), (0, rf G 146)]) dX6_findBest_9 rfl rfl rfl ?_
  refine s_aload_n 2 dX6_findBest_10 rfl rfl ?_
  refine s_iconst (v := -1) dX6_findBest_11 ci_m1 ?_
  refine p_X6_59 rfl dX6_findBest_12 ?_
  refine s_letM fun M2 => ?_
  refine s_iconst (v := 0) dX6_findBest_15 ci_0 ?_
  refine s_istore_n (lv' := [(3, .int (0 : Int32)), (2, .int (0 : Int32)), (1, .int x1), (0, rf G 146)]) dX6_findBest_16 rfl rfl rfl ?_
  exact s_sub [0, 1, 2, 3] rfl (tX6_findBest_L17 l G x1 FU (0 : Int32) (0 : Int32) M2)
