theorem dX8_bodyFrom_0 : decode cX8_bodyFrom 0 = .ok (.iload_n 0, 1) := by decide +kernel
theorem dX8_bodyFrom_1 : decode cX8_bodyFrom 1 = .ok (.istore_n 2, 1) := by decide +kernel
theorem dX8_bodyFrom_2 : decode cX8_bodyFrom 2 = .ok (.iconst 0, 1) := by decide +kernel
theorem dX8_bodyFrom_3 : decode cX8_bodyFrom 3 = .ok (.istore_n 3, 1) := by decide +kernel
theorem dX8_bodyFrom_4 : decode cX8_bodyFrom 4 = .ok (.iload_n 3, 1) := by decide +kernel
theorem dX8_bodyFrom_5 : decode cX8_bodyFrom 5 = .ok (.bipush 7, 2) := by decide +kernel
theorem dX8_bodyFrom_7 : decode cX8_bodyFrom 7 = .ok (.if_icmp .ge 44, 3) := by decide +kernel
theorem dX8_bodyFrom_10 : decode cX8_bodyFrom 10 = .ok (.iload_n 2, 1) := by decide +kernel
theorem dX8_bodyFrom_11 : decode cX8_bodyFrom 11 = .ok (.iconst 0, 1) := by decide +kernel
theorem dX8_bodyFrom_12 : decode cX8_bodyFrom 12 = .ok (.bipush 6, 2) := by decide +kernel
theorem dX8_bodyFrom_14 : decode cX8_bodyFrom 14 = .ok (.invokestatic 71, 3) := by decide +kernel
theorem dX8_bodyFrom_17 : decode cX8_bodyFrom 17 = .ok (.ifCond .eq 34, 3) := by decide +kernel
theorem dX8_bodyFrom_20 : decode cX8_bodyFrom 20 = .ok (.getstatic 75, 3) := by decide +kernel
theorem dX8_bodyFrom_23 : decode cX8_bodyFrom 23 = .ok (.iload_n 2, 1) := by decide +kernel
theorem dX8_bodyFrom_24 : decode cX8_bodyFrom 24 = .ok (.iconst 4, 1) := by decide +kernel
theorem dX8_bodyFrom_25 : decode cX8_bodyFrom 25 = .ok (.imul, 1) := by decide +kernel
theorem dX8_bodyFrom_26 : decode cX8_bodyFrom 26 = .ok (.iload_n 1, 1) := by decide +kernel
theorem dX8_bodyFrom_27 : decode cX8_bodyFrom 27 = .ok (.iadd, 1) := by decide +kernel
theorem dX8_bodyFrom_28 : decode cX8_bodyFrom 28 = .ok (.iaload, 1) := by decide +kernel
theorem dX8_bodyFrom_29 : decode cX8_bodyFrom 29 = .ok (.istore 4, 2) := by decide +kernel
theorem dX8_bodyFrom_31 : decode cX8_bodyFrom 31 = .ok (.iload 4, 2) := by decide +kernel
theorem dX8_bodyFrom_33 : decode cX8_bodyFrom 33 = .ok (.ifCond .eq 6, 3) := by decide +kernel
theorem dX8_bodyFrom_36 : decode cX8_bodyFrom 36 = .ok (.iload 4, 2) := by decide +kernel
theorem dX8_bodyFrom_38 : decode cX8_bodyFrom 38 = .ok (.ireturn, 1) := by decide +kernel
theorem dX8_bodyFrom_39 : decode cX8_bodyFrom 39 = .ok (.getstatic 53, 3) := by decide +kernel
theorem dX8_bodyFrom_42 : decode cX8_bodyFrom 42 = .ok (.iload_n 2, 1) := by decide +kernel
theorem dX8_bodyFrom_43 : decode cX8_bodyFrom 43 = .ok (.iaload, 1) := by decide +kernel
theorem dX8_bodyFrom_44 : decode cX8_bodyFrom 44 = .ok (.istore_n 2, 1) := by decide +kernel
theorem dX8_bodyFrom_45 : decode cX8_bodyFrom 45 = .ok (.iinc 3 1, 3) := by decide +kernel
theorem dX8_bodyFrom_48 : decode cX8_bodyFrom 48 = .ok (.goto (-44), 3) := by decide +kernel
theorem dX8_bodyFrom_51 : decode cX8_bodyFrom 51 = .ok (.iconst 0, 1) := by decide +kernel
theorem dX8_bodyFrom_52 : decode cX8_bodyFrom 52 = .ok (.ireturn, 1) := by decide +kernel
def fX8_bodyFrom_B51 (M : Mm) : Option (Int32 × Mm) :=
  some ((0 : Int32), M)
theorem tX8_bodyFrom_B51 (l : Launch) (G : Gx) (M : Mm) : Sim cQi l layC G 2 cX8_bodyFrom RX8 5 (some .int) 51 [] [] M (fX8_bodyFrom_B51 M) := by
  unfold fX8_bodyFrom_B51
  refine s_iconst (v := 0) dX8_bodyFrom_51 ci_0 ?_
  exact s_iret rfl dX8_bodyFrom_52
def fX8_bodyFrom_B36 (v4 : Int32) (M : Mm) : Option (Int32 × Mm) :=
  some (v4, M)
theorem tX8_bodyFrom_B36 (l : Launch) (G : Gx) (v4 : Int32) (M : Mm) : Sim cQi l layC G 2 cX8_bodyFrom RX8 5 (some .int) 36 [(4, .int v4)] [] M (fX8_bodyFrom_B36 v4 M) := by
  unfold fX8_bodyFrom_B36
  refine s_iload 0 dX8_bodyFrom_36 rfl ?_
  exact s_iret rfl dX8_bodyFrom_38
def fX8_bodyFrom_L4b (v1 : Int32) (q4 : Int32 → Int32 → Mm → Option (Int32 × Mm)) (v3 : Int32) (v2 : Int32) (M : Mm) : Option (Int32 × Mm) :=
  if (7 : Int32) ≤ v3 then (fX8_bodyFrom_B51 M)
  else bd (fX9_isWithin v2 (0 : Int32) (6 : Int32) M) fun r1 M2 =>
  if r1 = true then (gd (inb ((v2 * (4 : Int32)) + v1) 28) <|
  lt (tabB (ix ((v2 * (4 : Int32)) + v1))) fun x4 =>
  if x4 = 0 then (gd (inb v2 7) <|
  lt (tabA (ix v2)) fun x6 =>
  q4 (v3 + 1) x6 M2)
  else fX8_bodyFrom_B36 x4 M2)
  else fX8_bodyFrom_B51 M2
def fX8_bodyFrom_L4 (v1 : Int32) : Nat → Int32 → Int32 → Mm → Option (Int32 × Mm)
  | 0 => fun _ _ _ => none
  | n + 1 => fX8_bodyFrom_L4b v1 (fX8_bodyFrom_L4 v1 n)
theorem tX8_bodyFrom_L4b (l : Launch) (G : Gx) (v1 : Int32) (q4 : Int32 → Int32 → Mm → Option (Int32 × Mm)) (hq4 : ∀ (v3 : Int32) (v2 : Int32) (M : Mm), Sim cQi l layC G 2 cX8_bodyFrom RX8 5 (some .int) 4 [(3, .int v3), (2, .int v2), (1, .int v1)] [] M (q4 v3 v2 M)) (v3 : Int32) (v2 : Int32) (M : Mm) : Sim cQi l layC G 2 cX8_bodyFrom RX8 5 (some .int) 4 [(3, .int v3), (2, .int v2), (1, .int v1)] [] M (fX8_bodyFrom_L4b v1 q4 v3 v2 M) := by
  unfold fX8_bodyFrom_L4b
  refine s_iload_n 0 dX8_bodyFrom_4 rfl rfl ?_
  refine s_bipush (v := 7) dX8_bodyFrom_5 cb_7 ?_
  refine s_icmpge (tgt := 51) dX8_bodyFrom_7 (by decide) ?_ ?_
  · exact s_sub [] rfl (tX8_bodyFrom_B51 l G M)
  · refine s_iload_n 1 dX8_bodyFrom_10 rfl rfl ?_
    refine s_iconst (v := 0) dX8_bodyFrom_11 ci_0 ?_
    refine s_bipush (v := 6) dX8_bodyFrom_12 cb_6 ?_
    refine s_call_z (s_runSN (rest := []) (mX9_isWithin l G v2 (0 : Int32) (6 : Int32) M) ok_X9_isWithin k_X8_71 rfl rfl rfl rfl dX8_bodyFrom_14) fun r1 M2 => ?_
    refine s_ifeqB (tgt := 51) dX8_bodyFrom_17 (by decide) ?_ ?_
    · exact s_sub [] rfl (tX8_bodyFrom_B51 l G M2)
    · refine s_getsB q_873 dX8_bodyFrom_20 ?_
      refine s_iload_n 1 dX8_bodyFrom_23 rfl rfl ?_
      refine s_iconst (v := 4) dX8_bodyFrom_24 ci_4 ?_
      refine s_imul dX8_bodyFrom_25 ?_
      refine s_iload_n 2 dX8_bodyFrom_26 rfl rfl ?_
      refine s_iadd dX8_bodyFrom_27 ?_
      refine s_gd fun h3 => ?_
      refine s_sldB h3 dX8_bodyFrom_28 ?_
      refine s_leti fun x4 => ?_
      refine s_istore (lv' := [(4, .int x4), (3, .int v3), (2, .int v2), (1, .int v1)]) dX8_bodyFrom_29 rfl rfl ?_
      refine s_iload 0 dX8_bodyFrom_31 rfl ?_
      refine s_ifeq (tgt := 39) dX8_bodyFrom_33 (by decide) ?_ ?_
      · refine s_getsAN q_875 dX8_bodyFrom_39 ?_
        refine s_iload_n 2 dX8_bodyFrom_42 rfl rfl ?_
        refine s_gd fun h5 => ?_
        refine s_sldA h5 dX8_bodyFrom_43 ?_
        refine s_leti fun x6 => ?_
        refine s_istore_n (lv' := [(2, .int x6), (4, .int x4), (3, .int v3), (1, .int v1)]) dX8_bodyFrom_44 rfl rfl rfl ?_
        refine s_iinc (k := 2) (lv' := [(3, .int (v3 + 1)), (2, .int x6), (4, .int x4), (1, .int v1)]) dX8_bodyFrom_45 rfl ci_1 rfl rfl ?_
        refine s_goto (tgt := 4) dX8_bodyFrom_48 (by decide) ?_
        exact s_sub [0, 1, 3] rfl (hq4 (v3 + 1) x6 M2)
      · exact s_sub [0] rfl (tX8_bodyFrom_B36 l G x4 M2)
theorem tX8_bodyFrom_L4 (l : Launch) (G : Gx) (v1 : Int32) : ∀ (n : Nat) (v3 : Int32) (v2 : Int32) (M : Mm), Sim cQi l layC G 2 cX8_bodyFrom RX8 5 (some .int) 4 [(3, .int v3), (2, .int v2), (1, .int v1)] [] M (fX8_bodyFrom_L4 v1 n v3 v2 M)
  | 0, _, _, _ => s_none
  | n + 1, v3, v2, M => tX8_bodyFrom_L4b l G v1 _ (tX8_bodyFrom_L4 l G v1 n) v3 v2 M
def fX8_bodyFrom (a1 : Int32) (a2 : Int32) (M : Mm) : Option (Int32 × Mm) :=
  fX8_bodyFrom_L4 a2 FU (0 : Int32) a1 M
theorem mX8_bodyFrom (l : Launch) (G : Gx) (a1 : Int32) (a2 : Int32) (M : Mm) : Mt cQi l layC G 2 yX8_bodyFrom cX8_bodyFrom 5 (some .int) [.int a1, .int a2] M (fX8_bodyFrom a1 a2 M) := by
  refine Mt.of2 (own := RX8) (lv := [(0, .int a1), (1, .int a2)]) rfl (by decide +kernel) rfl rfl ?_
  unfold fX8_bodyFrom
  refine s_iload_n 0 dX8_bodyFrom_0 rfl rfl ?_
  refine s_istore_n (lv' := [(2, .int a1), (0, .int a1), (1, .int a2)]) dX8_bodyFrom_1 rfl rfl rfl ?_
  refine s_iconst (v := 0) dX8_bodyFrom_2 ci_0 ?_
  refine s_istore_n (lv' := [(3, .int (0 : Int32)), (2, .int a1), (0, .int a1), (1, .int a2)]) dX8_bodyFrom_3 rfl rfl rfl ?_
  exact s_sub [0, 1, 3] rfl (tX8_bodyFrom_L4 l G a2 FU (0 : Int32) a1 M)
theorem dX8_part_0 : decode cX8_part 0 = .ok (.aload_n 0, 1) := by decide +kernel
theorem dX8_part_1 : decode cX8_part 1 = .ok (.aload_n 0, 1) := by decide +kernel
theorem dX8_part_2 : decode cX8_part 2 = .ok (.getfield 37, 3) := by decide +kernel
theorem dX8_part_5 : decode cX8_part 5 = .ok (.aload_n 0, 1) := by decide +kernel
theorem dX8_part_6 : decode cX8_part 6 = .ok (.getfield 38, 3) := by decide +kernel
theorem dX8_part_9 : decode cX8_part 9 = .ok (.if_icmp .ne 7, 3) := by decide +kernel
theorem dX8_part_12 : decode cX8_part 12 = .ok (.iconst 1, 1) := by decide +kernel
theorem dX8_part_13 : decode cX8_part 13 = .ok (.goto 4, 3) := by decide +kernel
theorem dX8_part_16 : decode cX8_part 16 = .ok (.iconst 0, 1) := by decide +kernel
theorem dX8_part_17 : decode cX8_part 17 = .ok (.putfield 23, 3) := by decide +kernel
theorem dX8_part_20 : decode cX8_part 20 = .ok (.iload_n 1, 1) := by decide +kernel
theorem dX8_part_21 : decode cX8_part 21 = .ok (.aload_n 0, 1) := by decide +kernel
theorem dX8_part_22 : decode cX8_part 22 = .ok (.getfield 37, 3) := by decide +kernel
theorem dX8_part_25 : decode cX8_part 25 = .ok (.aload_n 0, 1) := by decide +kernel
theorem dX8_part_26 : decode cX8_part 26 = .ok (.getfield 38, 3) := by decide +kernel
theorem dX8_part_29 : decode cX8_part 29 = .ok (.isub, 1) := by decide +kernel
theorem dX8_part_30 : decode cX8_part 30 = .ok (.invokestatic 68, 3) := by decide +kernel
theorem dX8_part_33 : decode cX8_part 33 = .ok (.ireturn, 1) := by decide +kernel
def fX8_part_B17 (v1 : Int32) (w0 : Int32) (M : Mm) : Option (Int32 × Mm) :=
  gd (isb w0) <|
  lt (wr M 156 1 w0) fun M2 =>
  bd (fX9_quotient v1 ((M2 156 3) - (M2 156 4)) M2) fun r3 M4 =>
  some (r3, M4)
theorem tX8_part_B17 (l : Launch) (G : Gx) (v1 : Int32) (w0 : Int32) (M : Mm) : Sim cQi l layC G 2 cX8_part RX8 2 (some .int) 17 [(0, rf G 156), (1, .int v1)] [.int w0, rf G 156] M (fX8_part_B17 v1 w0 M) := by
  unfold fX8_part_B17
  refine s_gd fun h1 => ?_
  refine p_X8_23 rfl (isb_nf h1) dX8_part_17 ?_
  refine s_letM fun M2 => ?_
  refine s_iload_n 1 dX8_part_20 rfl rfl ?_
  refine s_aload_n 0 dX8_part_21 rfl rfl ?_
  refine g_X8_37 rfl dX8_part_22 ?_
  refine s_aload_n 0 dX8_part_25 rfl rfl ?_
  refine g_X8_38 rfl dX8_part_26 ?_
  refine s_isub dX8_part_29 ?_
  refine s_call_i (s_runSN (rest := []) (mX9_quotient l G v1 ((M2 156 3) - (M2 156 4)) M2) ok_X9_quotient k_X8_68 rfl rfl rfl rfl dX8_part_30) fun r3 M4 => ?_
  exact s_iret rfl dX8_part_33
def fX8_part (a1 : Int32) (M : Mm) : Option (Int32 × Mm) :=
  if (M 156 3) = (M 156 4) then (fX8_part_B17 a1 (1 : Int32) M)
  else fX8_part_B17 a1 (0 : Int32) M
theorem mX8_part (l : Launch) (G : Gx) (a1 : Int32) (M : Mm) : Mt cQi l layC G 2 yX8_part cX8_part 2 (some .int) [rf G 156, .int a1] M (fX8_part a1 M) := by
  refine Mt.of2 (own := RX8) (lv := [(0, rf G 156), (1, .int a1)]) rfl (by decide +kernel) rfl rfl ?_
  unfold fX8_part
  refine s_aload_n 0 dX8_part_0 rfl rfl ?_
  refine s_aload_n 0 dX8_part_1 rfl rfl ?_
  refine g_X8_37 rfl dX8_part_2 ?_
  refine s_aload_n 0 dX8_part_5 rfl rfl ?_
  refine g_X8_38 rfl dX8_part_6 ?_
  refine s_icmpne (tgt := 16) dX8_part_9 (by decide) ?_ ?_
  · refine s_iconst (v := 0) dX8_part_16 ci_0 ?_
    exact s_sub [0, 1] rfl (tX8_part_B17 l G a1 (0 : Int32) M)
  · refine s_iconst (v := 1) dX8_part_12 ci_1 ?_
    refine s_goto (tgt := 17) dX8_part_13 (by decide) ?_
    exact s_sub [0, 1] rfl (tX8_part_B17 l G a1 (1 : Int32) M)
theorem dX8_speak_0 : decode cX8_speak 0 = .ok (.iload_n 1, 1) := by decide +kernel
theorem dX8_speak_1 : decode cX8_speak 1 = .ok (.iload_n 2, 1) := by decide +kernel
theorem dX8_speak_2 : decode cX8_speak 2 = .ok (.invokestatic 45, 3) := by decide +kernel
theorem dX8_speak_5 : decode cX8_speak 5 = .ok (.istore 5, 2) := by decide +kernel
theorem dX8_speak_7 : decode cX8_speak 7 = .ok (.iload 5, 2) := by decide +kernel
theorem dX8_speak_9 : decode cX8_speak 9 = .ok (.ifCond .eq 10, 3) := by decide +kernel
theorem dX8_speak_12 : decode cX8_speak 12 = .ok (.iload 4, 2) := by decide +kernel
theorem dX8_speak_14 : decode cX8_speak 14 = .ok (.bipush 40, 2) := by decide +kernel
theorem dX8_speak_16 : decode cX8_speak 16 = .ok (.if_icmp .lt 5, 3) := by decide +kernel
theorem dX8_speak_19 : decode cX8_speak 19 = .ok (.iconst 0, 1) := by decide +kernel
theorem dX8_speak_20 : decode cX8_speak 20 = .ok (.ireturn, 1) := by decide +kernel
theorem dX8_speak_21 : decode cX8_speak 21 = .ok (.aload_n 0, 1) := by decide +kernel
theorem dX8_speak_22 : decode cX8_speak 22 = .ok (.getfield 16, 3) := by decide +kernel
theorem dX8_speak_25 : decode cX8_speak 25 = .ok (.iload 5, 2) := by decide +kernel
theorem dX8_speak_27 : decode cX8_speak 27 = .ok (.invokevirtual 49, 3) := by decide +kernel
theorem dX8_speak_30 : decode cX8_speak 30 = .ok (.pop, 1) := by decide +kernel
theorem dX8_speak_31 : decode cX8_speak 31 = .ok (.getstatic 53, 3) := by decide +kernel
theorem dX8_speak_34 : decode cX8_speak 34 = .ok (.iload 5, 2) := by decide +kernel
theorem dX8_speak_36 : decode cX8_speak 36 = .ok (.bipush 10, 2) := by decide +kernel
theorem dX8_speak_38 : decode cX8_speak 38 = .ok (.idiv, 1) := by decide +kernel
theorem dX8_speak_39 : decode cX8_speak 39 = .ok (.iconst 1, 1) := by decide +kernel
theorem dX8_speak_40 : decode cX8_speak 40 = .ok (.isub, 1) := by decide +kernel
theorem dX8_speak_41 : decode cX8_speak 41 = .ok (.iconst 0, 1) := by decide +kernel
theorem dX8_speak_42 : decode cX8_speak 42 = .ok (.bipush 6, 2) := by decide +kernel
theorem dX8_speak_44 : decode cX8_speak 44 = .ok (.invokestatic 57, 3) := by decide +kernel
theorem dX8_speak_47 : decode cX8_speak 47 = .ok (.iaload, 1) := by decide +kernel
theorem dX8_speak_48 : decode cX8_speak 48 = .ok (.istore 6, 2) := by decide +kernel
theorem dX8_speak_50 : decode cX8_speak 50 = .ok (.iload 4, 2) := by decide +kernel
theorem dX8_speak_52 : decode cX8_speak 52 = .ok (.iconst 1, 1) := by decide +kernel
theorem dX8_speak_53 : decode cX8_speak 53 = .ok (.iadd, 1) := by decide +kernel
theorem dX8_speak_54 : decode cX8_speak 54 = .ok (.istore 7, 2) := by decide +kernel
theorem dX8_speak_56 : decode cX8_speak 56 = .ok (.iload 5, 2) := by decide +kernel
theorem dX8_speak_58 : decode cX8_speak 58 = .ok (.lookupswitch 246 #[(10, 106), (11, 113), (12, 128), (13, 146), (20, 152), (21, 166), (30, 176), (40, 189), (41, 202), (50, 218), (60, 231), (70, 244)], 106) := by decide +kernel
theorem dX8_speak_164 : decode cX8_speak 164 = .ok (.iload_n 3, 1) := by decide +kernel
theorem dX8_speak_165 : decode cX8_speak 165 = .ok (.aload_n 0, 1) := by decide +kernel
theorem dX8_speak_166 : decode cX8_speak 166 = .ok (.getfield 38, 3) := by decide +kernel
theorem dX8_speak_169 : decode cX8_speak 169 = .ok (.iadd, 1) := by decide +kernel
theorem dX8_speak_170 : decode cX8_speak 170 = .ok (.ireturn, 1) := by decide +kernel
theorem dX8_speak_171 : decode cX8_speak 171 = .ok (.aload_n 0, 1) := by decide +kernel
theorem dX8_speak_172 : decode cX8_speak 172 = .ok (.aload_n 0, 1) := by decide +kernel
theorem dX8_speak_173 : decode cX8_speak 173 = .ok (.getfield 33, 3) := by decide +kernel
theorem dX8_speak_176 : decode cX8_speak 176 = .ok (.iconst 0, 1) := by decide +kernel
theorem dX8_speak_177 : decode cX8_speak 177 = .ok (.iload_n 3, 1) := by decide +kernel
theorem dX8_speak_178 : decode cX8_speak 178 = .ok (.iload 7, 2) := by decide +kernel
theorem dX8_speak_180 : decode cX8_speak 180 = .ok (.invokevirtual 41, 3) := by decide +kernel
theorem dX8_speak_183 : decode cX8_speak 183 = .ok (.iconst 2, 1) := by decide +kernel
theorem dX8_speak_184 : decode cX8_speak 184 = .ok (.imul, 1) := by decide +kernel
theorem dX8_speak_185 : decode cX8_speak 185 = .ok (.ireturn, 1) := by decide +kernel
theorem dX8_speak_186 : decode cX8_speak 186 = .ok (.aload_n 0, 1) := by decide +kernel
theorem dX8_speak_187 : decode cX8_speak 187 = .ok (.aload_n 0, 1) := by decide +kernel
theorem dX8_speak_188 : decode cX8_speak 188 = .ok (.getfield 33, 3) := by decide +kernel
theorem dX8_speak_191 : decode cX8_speak 191 = .ok (.iconst 1, 1) := by decide +kernel
theorem dX8_speak_192 : decode cX8_speak 192 = .ok (.iload_n 3, 1) := by decide +kernel
theorem dX8_speak_193 : decode cX8_speak 193 = .ok (.iload 7, 2) := by decide +kernel
theorem dX8_speak_195 : decode cX8_speak 195 = .ok (.invokevirtual 41, 3) := by decide +kernel
theorem dX8_speak_198 : decode cX8_speak 198 = .ok (.aload_n 0, 1) := by decide +kernel
theorem dX8_speak_199 : decode cX8_speak 199 = .ok (.getfield 37, 3) := by decide +kernel
theorem dX8_speak_202 : decode cX8_speak 202 = .ok (.isub, 1) := by decide +kernel
theorem dX8_speak_203 : decode cX8_speak 203 = .ok (.ireturn, 1) := by decide +kernel
theorem dX8_speak_204 : decode cX8_speak 204 = .ok (.aload_n 0, 1) := by decide +kernel
theorem dX8_speak_205 : decode cX8_speak 205 = .ok (.iload_n 3, 1) := by decide +kernel
theorem dX8_speak_206 : decode cX8_speak 206 = .ok (.invokevirtual 61, 3) := by decide +kernel
theorem dX8_speak_209 : decode cX8_speak 209 = .ok (.ireturn, 1) := by decide +kernel
theorem dX8_speak_210 : decode cX8_speak 210 = .ok (.aload_n 0, 1) := by decide +kernel
theorem dX8_speak_211 : decode cX8_speak 211 = .ok (.iload 6, 2) := by decide +kernel
theorem dX8_speak_213 : decode cX8_speak 213 = .ok (.iconst 0, 1) := by decide +kernel
theorem dX8_speak_214 : decode cX8_speak 214 = .ok (.iload_n 3, 1) := by decide +kernel
theorem dX8_speak_215 : decode cX8_speak 215 = .ok (.iload 7, 2) := by decide +kernel
theorem dX8_speak_217 : decode cX8_speak 217 = .ok (.invokevirtual 41, 3) := by decide +kernel
theorem dX8_speak_220 : decode cX8_speak 220 = .ok (.bipush 6, 2) := by decide +kernel
theorem dX8_speak_222 : decode cX8_speak 222 = .ok (.isub, 1) := by decide +kernel
theorem dX8_speak_223 : decode cX8_speak 223 = .ok (.ireturn, 1) := by decide +kernel
theorem dX8_speak_224 : decode cX8_speak 224 = .ok (.aload_n 0, 1) := by decide +kernel
theorem dX8_speak_225 : decode cX8_speak 225 = .ok (.iload 6, 2) := by decide +kernel
theorem dX8_speak_227 : decode cX8_speak 227 = .ok (.iload_n 3, 1) := by decide +kernel
theorem dX8_speak_228 : decode cX8_speak 228 = .ok (.iload 7, 2) := by decide +kernel
theorem dX8_speak_230 : decode cX8_speak 230 = .ok (.invokevirtual 65, 3) := by decide +kernel
theorem dX8_speak_233 : decode cX8_speak 233 = .ok (.ireturn, 1) := by decide +kernel
theorem dX8_speak_234 : decode cX8_speak 234 = .ok (.iconst 0, 1) := by decide +kernel
theorem dX8_speak_235 : decode cX8_speak 235 = .ok (.aload_n 0, 1) := by decide +kernel
theorem dX8_speak_236 : decode cX8_speak 236 = .ok (.iload 6, 2) := by decide +kernel
theorem dX8_speak_238 : decode cX8_speak 238 = .ok (.iconst 1, 1) := by decide +kernel
theorem dX8_speak_239 : decode cX8_speak 239 = .ok (.iload_n 3, 1) := by decide +kernel
theorem dX8_speak_240 : decode cX8_speak 240 = .ok (.iload 7, 2) := by decide +kernel
theorem dX8_speak_242 : decode cX8_speak 242 = .ok (.invokevirtual 41, 3) := by decide +kernel
theorem dX8_speak_245 : decode cX8_speak 245 = .ok (.isub, 1) := by decide +kernel
theorem dX8_speak_246 : decode cX8_speak 246 = .ok (.ireturn, 1) := by decide +kernel
theorem dX8_speak_247 : decode cX8_speak 247 = .ok (.aload_n 0, 1) := by decide +kernel
theorem dX8_speak_248 : decode cX8_speak 248 = .ok (.iload 6, 2) := by decide +kernel
theorem dX8_speak_250 : decode cX8_speak 250 = .ok (.iconst 0, 1) := by decide +kernel
theorem dX8_speak_251 : decode cX8_speak 251 = .ok (.iload_n 3, 1) := by decide +kernel
theorem dX8_speak_252 : decode cX8_speak 252 = .ok (.iload 7, 2) := by decide +kernel
theorem dX8_speak_254 : decode cX8_speak 254 = .ok (.invokevirtual 41, 3) := by decide +kernel
theorem dX8_speak_257 : decode cX8_speak 257 = .ok (.iconst 3, 1) := by decide +kernel
theorem dX8_speak_258 : decode cX8_speak 258 = .ok (.imul, 1) := by decide +kernel
theorem dX8_speak_259 : decode cX8_speak 259 = .ok (.ireturn, 1) := by decide +kernel
theorem dX8_speak_260 : decode cX8_speak 260 = .ok (.aload_n 0, 1) := by decide +kernel
theorem dX8_speak_261 : decode cX8_speak 261 = .ok (.iload 6, 2) := by decide +kernel
theorem dX8_speak_263 : decode cX8_speak 263 = .ok (.iconst 2, 1) := by decide +kernel
theorem dX8_speak_264 : decode cX8_speak 264 = .ok (.iload_n 3, 1) := by decide +kernel
theorem dX8_speak_265 : decode cX8_speak 265 = .ok (.iload 7, 2) := by decide +kernel
theorem dX8_speak_267 : decode cX8_speak 267 = .ok (.invokevirtual 41, 3) := by decide +kernel
theorem dX8_speak_270 : decode cX8_speak 270 = .ok (.aload_n 0, 1) := by decide +kernel
theorem dX8_speak_271 : decode cX8_speak 271 = .ok (.getfield 38, 3) := by decide +kernel
theorem dX8_speak_274 : decode cX8_speak 274 = .ok (.ixor, 1) := by decide +kernel
theorem dX8_speak_275 : decode cX8_speak 275 = .ok (.ireturn, 1) := by decide +kernel
theorem dX8_speak_276 : decode cX8_speak 276 = .ok (.aload_n 0, 1) := by decide +kernel
theorem dX8_speak_277 : decode cX8_speak 277 = .ok (.iload 6, 2) := by decide +kernel
theorem dX8_speak_279 : decode cX8_speak 279 = .ok (.iconst 1, 1) := by decide +kernel
theorem dX8_speak_280 : decode cX8_speak 280 = .ok (.iload_n 3, 1) := by decide +kernel
theorem dX8_speak_281 : decode cX8_speak 281 = .ok (.iconst 1, 1) := by decide +kernel
theorem dX8_speak_282 : decode cX8_speak 282 = .ok (.iadd, 1) := by decide +kernel
theorem dX8_speak_283 : decode cX8_speak 283 = .ok (.iload 7, 2) := by decide +kernel
theorem dX8_speak_285 : decode cX8_speak 285 = .ok (.invokevirtual 41, 3) := by decide +kernel
theorem dX8_speak_288 : decode cX8_speak 288 = .ok (.ireturn, 1) := by decide +kernel
theorem dX8_speak_289 : decode cX8_speak 289 = .ok (.aload_n 0, 1) := by decide +kernel
theorem dX8_speak_290 : decode cX8_speak 290 = .ok (.iload 6, 2) := by decide +kernel
theorem dX8_speak_292 : decode cX8_speak 292 = .ok (.iconst 2, 1) := by decide +kernel
theorem dX8_speak_293 : decode cX8_speak 293 = .ok (.iload_n 3, 1) := by decide +kernel
theorem dX8_speak_294 : decode cX8_speak 294 = .ok (.iconst 2, 1) := by decide +kernel
theorem dX8_speak_295 : decode cX8_speak 295 = .ok (.idiv, 1) := by decide +kernel
theorem dX8_speak_296 : decode cX8_speak 296 = .ok (.iload 7, 2) := by decide +kernel
theorem dX8_speak_298 : decode cX8_speak 298 = .ok (.invokevirtual 41, 3) := by decide +kernel
theorem dX8_speak_301 : decode cX8_speak 301 = .ok (.ireturn, 1) := by decide +kernel
theorem dX8_speak_302 : decode cX8_speak 302 = .ok (.iconst 2, 1) := by decide +kernel
theorem dX8_speak_303 : decode cX8_speak 303 = .ok (.ireturn, 1) := by decide +kernel
theorem dX8_speak_304 : decode cX8_speak 304 = .ok (.aload_n 0, 1) := by decide +kernel
theorem dX8_speak_305 : decode cX8_speak 305 = .ok (.iload 6, 2) := by decide +kernel
theorem dX8_speak_307 : decode cX8_speak 307 = .ok (.iconst 1, 1) := by decide +kernel
theorem dX8_speak_308 : decode cX8_speak 308 = .ok (.iload_n 3, 1) := by decide +kernel
theorem dX8_speak_309 : decode cX8_speak 309 = .ok (.iload 7, 2) := by decide +kernel
theorem dX8_speak_311 : decode cX8_speak 311 = .ok (.invokevirtual 41, 3) := by decide +kernel
theorem dX8_speak_314 : decode cX8_speak 314 = .ok (.aload_n 0, 1) := by decide +kernel
theorem dX8_speak_315 : decode cX8_speak 315 = .ok (.getfield 37, 3) := by decide +kernel
theorem dX8_speak_318 : decode cX8_speak 318 = .ok (.iadd, 1) := by decide +kernel
theorem dX8_speak_319 : decode cX8_speak 319 = .ok (.ireturn, 1) := by decide +kernel
def fX8_speak_B19 (zX8_speak : Int32 → Int32 → Int32 → Int32 → Mm → Option (Int32 × Mm)) (zX8_castThinly : Int32 → Int32 → Int32 → Mm → Option (Int32 × Mm)) (M : Mm) : Option (Int32 × Mm) :=
  some ((0 : Int32), M)
theorem tX8_speak_B19 (l : Launch) (G : Gx) (zX8_speak : Int32 → Int32 → Int32 → Int32 → Mm → Option (Int32 × Mm)) (zX8_castThinly : Int32 → Int32 → Int32 → Mm → Option (Int32 × Mm)) (lev lev1 : Nat) (hlev : Nat.ble (lev1 + 1) lev = true) (hbase : 3 ≤ lev) (hzX8_speak : ∀ (a1 : Int32) (a2 : Int32) (a3 : Int32) (a4 : Int32) (M : Mm), Mt cQi l layC G lev1 yX8_speak cX8_speak 8 (some .int) [rf G 156, .int a1, .int a2, .int a3, .int a4] M (zX8_speak a1 a2 a3 a4 M)) (hzX8_castThinly : ∀ (a1 : Int32) (a2 : Int32) (a3 : Int32) (M : Mm), Mt cQi l layC G lev1 yX8_castThinly cX8_castThinly 5 (some .int) [rf G 156, .int a1, .int a2, .int a3] M (zX8_castThinly a1 a2 a3 M)) (M : Mm) : Sim cQi l layC G lev cX8_speak RX8 8 (some .int) 19 [] [] M (fX8_speak_B19 zX8_speak zX8_castThinly M) := by
  unfold fX8_speak_B19
  refine s_iconst (v := 0) dX8_speak_19 ci_0 ?_
  exact s_iret rfl dX8_speak_20
def fX8_speak_b (zX8_speak : Int32 → Int32 → Int32 → Int32 → Mm → Option (Int32 × Mm)) (zX8_castThinly : Int32 → Int32 → Int32 → Mm → Option (Int32 × Mm)) (a1 : Int32) (a2 : Int32) (a3 : Int32) (a4 : Int32) (M : Mm) : Option (Int32 × Mm) :=
  bd (fX8_bodyFrom a1 a2 M) fun r1 M2 =>
  if r1 = 0 then (fX8_speak_B19 zX8_speak zX8_castThinly M2)
  else if a4 < (40 : Int32) then (bd (fX5_add 157 r1 M2) fun r3 M4 =>
  bd (fX9_hold ((r1 / (10 : Int32)) - (1 : Int32)) (0 : Int32) (6 : Int32) M4) fun r5 M6 =>
  gd (inb r5 7) <|
  lt (tabA (ix r5)) fun x8 =>
  lt (a4 + (1 : Int32)) fun x9 =>
  if r1 = 10 then (some (a3 + (M6 156 4), M6))
  else if r1 = 11 then (bd (zX8_speak (M6 156 2) (0 : Int32) a3 x9 M6) fun r10 M11 =>
  some (r10 * (2 : Int32), M11))
  else if r1 = 12 then (bd (zX8_speak (M6 156 2) (1 : Int32) a3 x9 M6) fun r12 M13 =>
  some (r12 - (M13 156 3), M13))
  else if r1 = 13 then (bd (fX8_part a3 M6) fun r14 M15 =>
  some (r14, M15))
  else if r1 = 20 then (bd (zX8_speak x8 (0 : Int32) a3 x9 M6) fun r16 M17 =>
  some (r16 - (6 : Int32), M17))
  else if r1 = 21 then (bd (zX8_castThinly x8 a3 x9 M6) fun r18 M19 =>
  some (r18, M19))
  else if r1 = 30 then (bd (zX8_speak x8 (1 : Int32) a3 x9 M6) fun r20 M21 =>
  some ((0 : Int32) - r20, M21))
  else if r1 = 40 then (bd (zX8_speak x8 (0 : Int32) a3 x9 M6) fun r22 M23 =>
  some (r22 * (3 : Int32), M23))
  else if r1 = 41 then (bd (zX8_speak x8 (2 : Int32) a3 x9 M6) fun r24 M25 =>
  some (r24 ^^^ (M25 156 4), M25))
  else if r1 = 50 then (bd (zX8_speak x8 (1 : Int32) (a3 + (1 : Int32)) x9 M6) fun r26 M27 =>
  some (r26, M27))
  else if r1 = 60 then (bd (zX8_speak x8 (2 : Int32) (a3 / (2 : Int32)) x9 M6) fun r28 M29 =>
  some (r28, M29))
  else if r1 = 70 then (some ((2 : Int32), M6))
  else bd (zX8_speak x8 (1 : Int32) a3 x9 M6) fun r30 M31 =>
  some (r30 + (M31 156 3), M31))
  else fX8_speak_B19 zX8_speak zX8_castThinly M2
theorem mX8_speak_b (l : Launch) (G : Gx) (zX8_speak : Int32 → Int32 → Int32 → Int32 → Mm → Option (Int32 × Mm)) (zX8_castThinly : Int32 → Int32 → Int32 → Mm → Option (Int32 × Mm)) (lev lev1 : Nat) (hlev : Nat.ble (lev1 + 1) lev = true) (hbase : 3 ≤ lev) (hzX8_speak : ∀ (a1 : Int32) (a2 : Int32) (a3 : Int32) (a4 : Int32) (M : Mm), Mt cQi l layC G lev1 yX8_speak cX8_speak 8 (some .int) [rf G 156, .int a1, .int a2, .int a3, .int a4] M (zX8_speak a1 a2 a3 a4 M)) (hzX8_castThinly : ∀ (a1 : Int32) (a2 : Int32) (a3 : Int32) (M : Mm), Mt cQi l layC G lev1 yX8_castThinly cX8_castThinly 5 (some .int) [rf G 156, .int a1, .int a2, .int a3] M (zX8_castThinly a1 a2 a3 M)) (a1 : Int32) (a2 : Int32) (a3 : Int32) (a4 : Int32) (M : Mm) : Mt cQi l layC G lev yX8_speak cX8_speak 8 (some .int) [rf G 156, .int a1, .int a2, .int a3, .int a4] M (fX8_speak_b zX8_speak zX8_castThinly a1 a2 a3 a4 M) := by
  refine Mt.of2 (own := RX8) (lv := [(0, rf G 156), (1, .int a1), (2, .int a2), (3, .int a3), (4, .int a4)]) rfl (by decide +kernel) rfl rfl ?_
  unfold fX8_speak_b
  refine s_iload_n 1 dX8_speak_0 rfl rfl ?_
  refine s_iload_n 2 dX8_speak_1 rfl rfl ?_
  refine s_call_i (s_runS (rest := []) (mX8_bodyFrom l G a1 a2 M) ok_X8_bodyFrom k_X8_45 (ble_of hbase rfl) rfl rfl rfl dX8_speak_2) fun r1 M2 => ?_
  refine s_istore (lv' := [(5, .int r1), (0, rf G 156), (1, .int a1), (2, .int a2), (3, .int a3), (4, .int a4)]) dX8_speak_5 rfl rfl ?_
  refine s_iload 0 dX8_speak_7 rfl ?_
  refine s_ifeq (tgt := 19) dX8_speak_9 (by decide) ?_ ?_
  · exact s_sub [] rfl (tX8_speak_B19 l G zX8_speak zX8_castThinly lev lev1 hlev hbase hzX8_speak hzX8_castThinly M2)
  · refine s_iload 5 dX8_speak_12 rfl ?_
    refine s_bipush (v := 40) dX8_speak_14 cb_40 ?_
    refine s_icmplt (tgt := 21) dX8_speak_16 (by decide) ?_ ?_
    · refine s_aload_n 1 dX8_speak_21 rfl rfl ?_
      refine g_X8_16 (q := 157) rfl rfl dX8_speak_22 ?_
      refine s_iload 0 dX8_speak_25 rfl ?_
      refine s_call_z (s_runV (ci := 5) (rest := []) rfl rfl (mX5_add l G 157 r1 M2) ok_X5_add k_X8_49 (ble_of hbase rfl) rfl rfl rfl dX8_speak_27) fun r3 M4 => ?_
      refine s_pop dX8_speak_30 rfl ?_
      refine s_getsAN q_875 dX8_speak_31 ?_
      refine s_iload 0 dX8_speak_34 rfl ?_
      refine s_bipush (v := 10) dX8_speak_36 cb_10 ?_
      refine s_idiv dX8_speak_38 (by decide) ?_
      refine s_iconst (v := 1) dX8_speak_39 ci_1 ?_
      refine s_isub dX8_speak_40 ?_
      refine s_iconst (v := 0) dX8_speak_41 ci_0 ?_
      refine s_bipush (v := 6) dX8_speak_42 cb_6 ?_
      refine s_call_i (s_runSN (rest := [xf G 0]) (mX9_hold l G ((r1 / (10 : Int32)) - (1 : Int32)) (0 : Int32) (6 : Int32) M4) ok_X9_hold k_X8_57 (ble_of hbase rfl) rfl rfl rfl dX8_speak_44) fun r5 M6 => ?_
      refine s_gd fun h7 => ?_
      refine s_sldA h7 dX8_speak_47 ?_
      refine s_leti fun x8 => ?_
      refine s_istore (lv' := [(6, .int x8), (5, .int r1), (0, rf G 156), (1, .int a1), (2, .int a2), (3, .int a3), (4, .int a4)]) dX8_speak_48 rfl rfl ?_
      refine s_iload 6 dX8_speak_50 rfl ?_
      refine s_iconst (v := 1) dX8_speak_52 ci_1 ?_
      refine s_iadd dX8_speak_53 ?_
      refine s_leti fun x9 => ?_
      refine s_istore (lv' := [(7, .int x9), (6, .int x8), (5, .int r1), (0, rf G 156), (1, .int a1), (2, .int a2), (3, .int a3), (4, .int a4)]) dX8_speak_54 rfl rfl ?_
      refine s_iload 2 dX8_speak_56 rfl ?_
      refine s_lookup (tgt := 304) dX8_speak_58 (by decide) (by decide) (by decide) ?_
      refine lk_cons (k := 10) (tgt := 164) (by decide) (by decide) ?_ ?_
      · refine s_iload_n 6 dX8_speak_164 rfl rfl ?_
        refine s_aload_n 3 dX8_speak_165 rfl rfl ?_
        refine g_X8_38 rfl dX8_speak_166 ?_
        refine s_iadd dX8_speak_169 ?_
        exact s_iret rfl dX8_speak_170
      refine lk_cons (k := 11) (tgt := 171) (by decide) (by decide) ?_ ?_
      · refine s_aload_n 3 dX8_speak_171 rfl rfl ?_
        refine s_aload_n 3 dX8_speak_172 rfl rfl ?_
        refine g_X8_33 rfl dX8_speak_173 ?_
        refine s_iconst (v := 0) dX8_speak_176 ci_0 ?_
        refine s_iload_n 6 dX8_speak_177 rfl rfl ?_
        refine s_iload 0 dX8_speak_178 rfl ?_
        refine s_call_i (s_runV (ci := 8) (rest := []) rfl rfl (hzX8_speak (M6 156 2) (0 : Int32) a3 x9 M6) ok_X8_speak k_X8_41 hlev rfl rfl rfl dX8_speak_180) fun r10 M11 => ?_
        refine s_iconst (v := 2) dX8_speak_183 ci_2 ?_
        refine s_imul dX8_speak_184 ?_
        exact s_iret rfl dX8_speak_185
      refine lk_cons (k := 12) (tgt := 186) (by decide) (by decide) ?_ ?_
      · refine s_aload_n 3 dX8_speak_186 rfl rfl ?_
        refine s_aload_n 3 dX8_speak_187 rfl rfl ?_
        refine g_X8_33 rfl dX8_speak_188 ?_
        refine s_iconst (v := 1) dX8_speak_191 ci_1 ?_
        refine s_iload_n 6 dX8_speak_192 rfl rfl ?_
        refine s_iload 0 dX8_speak_193 rfl ?_
        refine s_call_i (s_runV (ci := 8) (rest := []) rfl rfl (hzX8_speak (M6 156 2) (1 : Int32) a3 x9 M6) ok_X8_speak k_X8_41 hlev rfl rfl rfl dX8_speak_195) fun r12 M13 => ?_
        refine s_aload_n 3 dX8_speak_198 rfl rfl ?_
        refine g_X8_37 rfl dX8_speak_199 ?_
        refine s_isub dX8_speak_202 ?_
        exact s_iret rfl dX8_speak_203
      refine lk_cons (k := 13) (tgt := 204) (by decide) (by decide) ?_ ?_
      · refine s_aload_n 3 dX8_speak_204 rfl rfl ?_
        refine s_iload_n 6 dX8_speak_205 rfl rfl ?_
        refine s_call_i (s_runV (ci := 8) (rest := []) rfl rfl (mX8_part l G a3 M6) ok_X8_part k_X8_61 (ble_of hbase rfl) rfl rfl rfl dX8_speak_206) fun r14 M15 => ?_
        exact s_iret rfl dX8_speak_209
      refine lk_cons (k := 20) (tgt := 210) (by decide) (by decide) ?_ ?_
      · refine s_aload_n 3 dX8_speak_210 rfl rfl ?_
        refine s_iload 1 dX8_speak_211 rfl ?_
        refine s_iconst (v := 0) dX8_speak_213 ci_0 ?_
        refine s_iload_n 6 dX8_speak_214 rfl rfl ?_
        refine s_iload 0 dX8_speak_215 rfl ?_
        refine s_call_i (s_runV (ci := 8) (rest := []) rfl rfl (hzX8_speak x8 (0 : Int32) a3 x9 M6) ok_X8_speak k_X8_41 hlev rfl rfl rfl dX8_speak_217) fun r16 M17 => ?_
        refine s_bipush (v := 6) dX8_speak_220 cb_6 ?_
        refine s_isub dX8_speak_222 ?_
        exact s_iret rfl dX8_speak_223
      refine lk_cons (k := 21) (tgt := 224) (by decide) (by decide) ?_ ?_
      · refine s_aload_n 3 dX8_speak_224 rfl rfl ?_
        refine s_iload 1 dX8_speak_225 rfl ?_
        refine s_iload_n 6 dX8_speak_227 rfl rfl ?_
        refine s_iload 0 dX8_speak_228 rfl ?_
        refine s_call_i (s_runV (ci := 8) (rest := []) rfl rfl (hzX8_castThinly x8 a3 x9 M6) ok_X8_castThinly k_X8_65 hlev rfl rfl rfl dX8_speak_230) fun r18 M19 => ?_
        exact s_iret rfl dX8_speak_233
      refine lk_cons (k := 30) (tgt := 234) (by decide) (by decide) ?_ ?_
      · refine s_iconst (v := 0) dX8_speak_234 ci_0 ?_
        refine s_aload_n 3 dX8_speak_235 rfl rfl ?_
        refine s_iload 1 dX8_speak_236 rfl ?_
        refine s_iconst (v := 1) dX8_speak_238 ci_1 ?_
        refine s_iload_n 6 dX8_speak_239 rfl rfl ?_
        refine s_iload 0 dX8_speak_240 rfl ?_
        refine s_call_i (s_runV (ci := 8) (rest := [.int (0 : Int32)]) rfl rfl (hzX8_speak x8 (1 : Int32) a3 x9 M6) ok_X8_speak k_X8_41 hlev rfl rfl rfl dX8_speak_242) fun r20 M21 => ?_
        refine s_isub dX8_speak_245 ?_
        exact s_iret rfl dX8_speak_246
      refine lk_cons (k := 40) (tgt := 247) (by decide) (by decide) ?_ ?_
      · refine s_aload_n 3 dX8_speak_247 rfl rfl ?_
        refine s_iload 1 dX8_speak_248 rfl ?_
        refine s_iconst (v := 0) dX8_speak_250 ci_0 ?_
        refine s_iload_n 6 dX8_speak_251 rfl rfl ?_
        refine s_iload 0 dX8_speak_252 rfl ?_
        refine s_call_i (s_runV (ci := 8) (rest := []) rfl rfl (hzX8_speak x8 (0 : Int32) a3 x9 M6) ok_X8_speak k_X8_41 hlev rfl rfl rfl dX8_speak_254) fun r22 M23 => ?_
        refine s_iconst (v := 3) dX8_speak_257 ci_3 ?_
        refine s_imul dX8_speak_258 ?_
        exact s_iret rfl dX8_speak_259
      refine lk_cons (k := 41) (tgt := 260) (by decide) (by decide) ?_ ?_
      · refine s_aload_n 3 dX8_speak_260 rfl rfl ?_
        refine s_iload 1 dX8_speak_261 rfl ?_
        refine s_iconst (v := 2) dX8_speak_263 ci_2 ?_
        refine s_iload_n 6 dX8_speak_264 rfl rfl ?_
        refine s_iload 0 dX8_speak_265 rfl ?_
        refine s_call_i (s_runV (ci := 8) (rest := []) rfl rfl (hzX8_speak x8 (2 : Int32) a3 x9 M6) ok_X8_speak k_X8_41 hlev rfl rfl rfl dX8_speak_267) fun r24 M25 => ?_
        refine s_aload_n 3 dX8_speak_270 rfl rfl ?_
        refine g_X8_38 rfl dX8_speak_271 ?_
        refine s_ixor dX8_speak_274 ?_
        exact s_iret rfl dX8_speak_275
      refine lk_cons (k := 50) (tgt := 276) (by decide) (by decide) ?_ ?_
      · refine s_aload_n 3 dX8_speak_276 rfl rfl ?_
        refine s_iload 1 dX8_speak_277 rfl ?_
        refine s_iconst (v := 1) dX8_speak_279 ci_1 ?_
        refine s_iload_n 6 dX8_speak_280 rfl rfl ?_
        refine s_iconst (v := 1) dX8_speak_281 ci_1 ?_
        refine s_iadd dX8_speak_282 ?_
        refine s_iload 0 dX8_speak_283 rfl ?_
        refine s_call_i (s_runV (ci := 8) (rest := []) rfl rfl (hzX8_speak x8 (1 : Int32) (a3 + (1 : Int32)) x9 M6) ok_X8_speak k_X8_41 hlev rfl rfl rfl dX8_speak_285) fun r26 M27 => ?_
        exact s_iret rfl dX8_speak_288
      refine lk_cons (k := 60) (tgt := 289) (by decide) (by decide) ?_ ?_
      · refine s_aload_n 3 dX8_speak_289 rfl rfl ?_
        refine s_iload 1 dX8_speak_290 rfl ?_
        refine s_iconst (v := 2) dX8_speak_292 ci_2 ?_
        refine s_iload_n 6 dX8_speak_293 rfl rfl ?_
        refine s_iconst (v := 2) dX8_speak_294 ci_2 ?_
        refine s_idiv dX8_speak_295 (by decide) ?_
        refine s_iload 0 dX8_speak_296 rfl ?_
        refine s_call_i (s_runV (ci := 8) (rest := []) rfl rfl (hzX8_speak x8 (2 : Int32) (a3 / (2 : Int32)) x9 M6) ok_X8_speak k_X8_41 hlev rfl rfl rfl dX8_speak_298) fun r28 M29 => ?_
        exact s_iret rfl dX8_speak_301
      refine lk_cons (k := 70) (tgt := 302) (by decide) (by decide) ?_ ?_
      · refine s_iconst (v := 2) dX8_speak_302 ci_2 ?_
        exact s_iret rfl dX8_speak_303
      refine lk_nil (tgt := 304) (by decide) ?_
      refine s_aload_n 3 dX8_speak_304 rfl rfl ?_
      refine s_iload 1 dX8_speak_305 rfl ?_
      refine s_iconst (v := 1) dX8_speak_307 ci_1 ?_
      refine s_iload_n 6 dX8_speak_308 rfl rfl ?_
      refine s_iload 0 dX8_speak_309 rfl ?_
      refine s_call_i (s_runV (ci := 8) (rest := []) rfl rfl (hzX8_speak x8 (1 : Int32) a3 x9 M6) ok_X8_speak k_X8_41 hlev rfl rfl rfl dX8_speak_311) fun r30 M31 => ?_
      refine s_aload_n 3 dX8_speak_314 rfl rfl ?_
      refine g_X8_37 rfl dX8_speak_315 ?_
      refine s_iadd dX8_speak_318 ?_
      exact s_iret rfl dX8_speak_319
    · exact s_sub [] rfl (tX8_speak_B19 l G zX8_speak zX8_castThinly lev lev1 hlev hbase hzX8_speak hzX8_castThinly M2)
theorem dX8_castThinly_0 : decode cX8_castThinly 0 = .ok (.aload_n 0, 1) := by decide +kernel
theorem dX8_castThinly_1 : decode cX8_castThinly 1 = .ok (.iload_n 1, 1) := by decide +kernel
theorem dX8_castThinly_2 : decode cX8_castThinly 2 = .ok (.iconst 3, 1) := by decide +kernel
theorem dX8_castThinly_3 : decode cX8_castThinly 3 = .ok (.iload_n 2, 1) := by decide +kernel
theorem dX8_castThinly_4 : decode cX8_castThinly 4 = .ok (.iload_n 3, 1) := by decide +kernel
theorem dX8_castThinly_5 : decode cX8_castThinly 5 = .ok (.invokevirtual 41, 3) := by decide +kernel
theorem dX8_castThinly_8 : decode cX8_castThinly 8 = .ok (.istore 4, 2) := by decide +kernel
theorem dX8_castThinly_10 : decode cX8_castThinly 10 = .ok (.aload_n 0, 1) := by decide +kernel
theorem dX8_castThinly_11 : decode cX8_castThinly 11 = .ok (.getfield 23, 3) := by decide +kernel
theorem dX8_castThinly_14 : decode cX8_castThinly 14 = .ok (.ifCond .eq 7, 3) := by decide +kernel
theorem dX8_castThinly_17 : decode cX8_castThinly 17 = .ok (.iconst 0, 1) := by decide +kernel
theorem dX8_castThinly_18 : decode cX8_castThinly 18 = .ok (.goto 17, 3) := by decide +kernel
theorem dX8_castThinly_21 : decode cX8_castThinly 21 = .ok (.iload 4, 2) := by decide +kernel
theorem dX8_castThinly_23 : decode cX8_castThinly 23 = .ok (.aload_n 0, 1) := by decide +kernel
theorem dX8_castThinly_24 : decode cX8_castThinly 24 = .ok (.aload_n 0, 1) := by decide +kernel
theorem dX8_castThinly_25 : decode cX8_castThinly 25 = .ok (.getfield 33, 3) := by decide +kernel
theorem dX8_castThinly_28 : decode cX8_castThinly 28 = .ok (.iconst 1, 1) := by decide +kernel
theorem dX8_castThinly_29 : decode cX8_castThinly 29 = .ok (.iconst 1, 1) := by decide +kernel
theorem dX8_castThinly_30 : decode cX8_castThinly 30 = .ok (.iload_n 3, 1) := by decide +kernel
theorem dX8_castThinly_31 : decode cX8_castThinly 31 = .ok (.invokevirtual 41, 3) := by decide +kernel
theorem dX8_castThinly_34 : decode cX8_castThinly 34 = .ok (.iadd, 1) := by decide +kernel
theorem dX8_castThinly_35 : decode cX8_castThinly 35 = .ok (.ireturn, 1) := by decide +kernel
def fX8_castThinly_B35 (zX8_speak : Int32 → Int32 → Int32 → Int32 → Mm → Option (Int32 × Mm)) (zX8_castThinly : Int32 → Int32 → Int32 → Mm → Option (Int32 × Mm)) (w0 : Int32) (M : Mm) : Option (Int32 × Mm) :=
  some (w0, M)
theorem tX8_castThinly_B35 (l : Launch) (G : Gx) (zX8_speak : Int32 → Int32 → Int32 → Int32 → Mm → Option (Int32 × Mm)) (zX8_castThinly : Int32 → Int32 → Int32 → Mm → Option (Int32 × Mm)) (lev lev1 : Nat) (hlev : Nat.ble (lev1 + 1) lev = true) (hbase : 3 ≤ lev) (hzX8_speak : ∀ (a1 : Int32) (a2 : Int32) (a3 : Int32) (a4 : Int32) (M : Mm), Mt cQi l layC G lev1 yX8_speak cX8_speak 8 (some .int) [rf G 156, .int a1, .int a2, .int a3, .int a4] M (zX8_speak a1 a2 a3 a4 M)) (hzX8_castThinly : ∀ (a1 : Int32) (a2 : Int32) (a3 : Int32) (M : Mm), Mt cQi l layC G lev1 yX8_castThinly cX8_castThinly 5 (some .int) [rf G 156, .int a1, .int a2, .int a3] M (zX8_castThinly a1 a2 a3 M)) (w0 : Int32) (M : Mm) : Sim cQi l layC G lev cX8_castThinly RX8 5 (some .int) 35 [] [.int w0] M (fX8_castThinly_B35 zX8_speak zX8_castThinly w0 M) := by
  unfold fX8_castThinly_B35
  exact s_iret rfl dX8_castThinly_35
def fX8_castThinly_b (zX8_speak : Int32 → Int32 → Int32 → Int32 → Mm → Option (Int32 × Mm)) (zX8_castThinly : Int32 → Int32 → Int32 → Mm → Option (Int32 × Mm)) (a1 : Int32) (a2 : Int32) (a3 : Int32) (M : Mm) : Option (Int32 × Mm) :=
  bd (zX8_speak a1 (3 : Int32) a2 a3 M) fun r1 M2 =>
  if (M2 156 1) = 0 then (bd (zX8_speak (M2 156 2) (1 : Int32) (1 : Int32) a3 M2) fun r3 M4 =>
  fX8_castThinly_B35 zX8_speak zX8_castThinly (r1 + r3) M4)
  else fX8_castThinly_B35 zX8_speak zX8_castThinly (0 : Int32) M2
theorem mX8_castThinly_b (l : Launch) (G : Gx) (zX8_speak : Int32 → Int32 → Int32 → Int32 → Mm → Option (Int32 × Mm)) (zX8_castThinly : Int32 → Int32 → Int32 → Mm → Option (Int32 × Mm)) (lev lev1 : Nat) (hlev : Nat.ble (lev1 + 1) lev = true) (hbase : 3 ≤ lev) (hzX8_speak : ∀ (a1 : Int32) (a2 : Int32) (a3 : Int32) (a4 : Int32) (M : Mm), Mt cQi l layC G lev1 yX8_speak cX8_speak 8 (some .int) [rf G 156, .int a1, .int a2, .int a3, .int a4] M (zX8_speak a1 a2 a3 a4 M)) (hzX8_castThinly : ∀ (a1 : Int32) (a2 : Int32) (a3 : Int32) (M : Mm), Mt cQi l layC G lev1 yX8_castThinly cX8_castThinly 5 (some .int) [rf G 156, .int a1, .int a2, .int a3] M (zX8_castThinly a1 a2 a3 M)) (a1 : Int32) (a2 : Int32) (a3 : Int32) (M : Mm) : Mt cQi l layC G lev yX8_castThinly cX8_castThinly 5 (some .int) [rf G 156, .int a1, .int a2, .int a3] M (fX8_castThinly_b zX8_speak zX8_castThinly a1 a2 a3 M) := by
  refine Mt.of2 (own := RX8) (lv := [(0, rf G 156), (1, .int a1), (2, .int a2), (3, .int a3)]) rfl (by decide +kernel) rfl rfl ?_
  unfold fX8_castThinly_b
  refine s_aload_n 0 dX8_castThinly_0 rfl rfl ?_
  refine s_iload_n 1 dX8_castThinly_1 rfl rfl ?_
  refine s_iconst (v := 3) dX8_castThinly_2 ci_3 ?_
  refine s_iload_n 2 dX8_castThinly_3 rfl rfl ?_
  refine s_iload_n 3 dX8_castThinly_4 rfl rfl ?_
  refine s_call_i (s_runV (ci := 8) (rest := []) rfl rfl (hzX8_speak a1 (3 : Int32) a2 a3 M) ok_X8_speak k_X8_41 hlev rfl rfl rfl dX8_castThinly_5) fun r1 M2 => ?_
  refine s_istore (lv' := [(4, .int r1), (0, rf G 156), (1, .int a1), (2, .int a2), (3, .int a3)]) dX8_castThinly_8 rfl rfl ?_
  refine s_aload_n 1 dX8_castThinly_10 rfl rfl ?_
  refine g_X8_23 rfl dX8_castThinly_11 ?_
  refine s_ifeq (tgt := 21) dX8_castThinly_14 (by decide) ?_ ?_
  · refine s_iload 0 dX8_castThinly_21 rfl ?_
    refine s_aload_n 1 dX8_castThinly_23 rfl rfl ?_
    refine s_aload_n 1 dX8_castThinly_24 rfl rfl ?_
    refine g_X8_33 rfl dX8_castThinly_25 ?_
    refine s_iconst (v := 1) dX8_castThinly_28 ci_1 ?_
    refine s_iconst (v := 1) dX8_castThinly_29 ci_1 ?_
    refine s_iload_n 4 dX8_castThinly_30 rfl rfl ?_
    refine s_call_i (s_runV (ci := 8) (rest := [.int r1]) rfl rfl (hzX8_speak (M2 156 2) (1 : Int32) (1 : Int32) a3 M2) ok_X8_speak k_X8_41 hlev rfl rfl rfl dX8_castThinly_31) fun r3 M4 => ?_
    refine s_iadd dX8_castThinly_34 ?_
    exact s_sub [] rfl (tX8_castThinly_B35 l G zX8_speak zX8_castThinly lev lev1 hlev hbase hzX8_speak hzX8_castThinly (r1 + r3) M4)
  · refine s_iconst (v := 0) dX8_castThinly_17 ci_0 ?_
    refine s_goto (tgt := 35) dX8_castThinly_18 (by decide) ?_
    exact s_sub [] rfl (tX8_castThinly_B35 l G zX8_speak zX8_castThinly lev lev1 hlev hbase hzX8_speak hzX8_castThinly (0 : Int32) M2)
def grX8_speak : Nat → (Int32 → Int32 → Int32 → Int32 → Mm → Option (Int32 × Mm)) × (Int32 → Int32 → Int32 → Mm → Option (Int32 × Mm))
  | 0 => (fun _ _ _ _ _ => none, fun _ _ _ _ => none)
  | d + 1 => (fX8_speak_b ((grX8_speak d).1) ((grX8_speak d).2), fX8_castThinly_b ((grX8_speak d).1) ((grX8_speak d).2))
def fX8_speak (d : Nat) : Int32 → Int32 → Int32 → Int32 → Mm → Option (Int32 × Mm) := (grX8_speak d).1
def fX8_castThinly (d : Nat) : Int32 → Int32 → Int32 → Mm → Option (Int32 × Mm) := (grX8_speak d).2
theorem mgX8_speak (l : Launch) (G : Gx) : ∀ d : Nat, (∀ (a1 : Int32) (a2 : Int32) (a3 : Int32) (a4 : Int32) (M : Mm), Mt cQi l layC G (3 + d) yX8_speak cX8_speak 8 (some .int) [rf G 156, .int a1, .int a2, .int a3, .int a4] M (fX8_speak d a1 a2 a3 a4 M)) ∧ (∀ (a1 : Int32) (a2 : Int32) (a3 : Int32) (M : Mm), Mt cQi l layC G (3 + d) yX8_castThinly cX8_castThinly 5 (some .int) [rf G 156, .int a1, .int a2, .int a3] M (fX8_castThinly d a1 a2 a3 M))
  | 0 => ⟨fun _ _ _ _ _ => Mt.none, fun _ _ _ _ => Mt.none⟩
  | d + 1 => ⟨fun a1 a2 a3 a4 M => mX8_speak_b l G (fX8_speak d) (fX8_castThinly d) (3 + (d + 1)) (3 + d) (Nat.ble_eq.mpr (Nat.le_refl _)) (Nat.le_add_right _ _) ((mgX8_speak l G d).1) ((mgX8_speak l G d).2) a1 a2 a3 a4 M, fun a1 a2 a3 M => mX8_castThinly_b l G (fX8_speak d) (fX8_castThinly d) (3 + (d + 1)) (3 + d) (Nat.ble_eq.mpr (Nat.le_refl _)) (Nat.le_add_right _ _) ((mgX8_speak l G d).1) ((mgX8_speak l G d).2) a1 a2 a3 M⟩
theorem mX8_speak (l : Launch) (G : Gx) (d : Nat) (a1 : Int32) (a2 : Int32) (a3 : Int32) (a4 : Int32) (M : Mm) : Mt cQi l layC G (3 + d) yX8_speak cX8_speak 8 (some .int) [rf G 156, .int a1, .int a2, .int a3, .int a4] M (fX8_speak d a1 a2 a3 a4 M) := (mgX8_speak l G d).1 a1 a2 a3 a4 M
theorem mX8_castThinly (l : Launch) (G : Gx) (d : Nat) (a1 : Int32) (a2 : Int32) (a3 : Int32) (M : Mm) : Mt cQi l layC G (3 + d) yX8_castThinly cX8_castThinly 5 (some .int) [rf G 156, .int a1, .int a2, .int a3] M (fX8_castThinly d a1 a2 a3 M) := (mgX8_speak l G d).2 a1 a2 a3 M
theorem dX8_hear_0 : decode cX8_hear 0 = .ok (.aload_n 0, 1) := by decide +kernel
theorem dX8_hear_1 : decode cX8_hear 1 = .ok (.getfield 16, 3) := by decide +kernel
theorem dX8_hear_4 : decode cX8_hear 4 = .ok (.invokevirtual 20, 3) := by decide +kernel
theorem dX8_hear_7 : decode cX8_hear 7 = .ok (.aload_n 0, 1) := by decide +kernel
theorem dX8_hear_8 : decode cX8_hear 8 = .ok (.iconst 0, 1) := by decide +kernel
theorem dX8_hear_9 : decode cX8_hear 9 = .ok (.putfield 23, 3) := by decide +kernel
theorem dX8_hear_12 : decode cX8_hear 12 = .ok (.aload_n 0, 1) := by decide +kernel
theorem dX8_hear_13 : decode cX8_hear 13 = .ok (.aload_n 1, 1) := by decide +kernel
theorem dX8_hear_14 : decode cX8_hear 14 = .ok (.getfield 27, 3) := by decide +kernel
theorem dX8_hear_17 : decode cX8_hear 17 = .ok (.putfield 33, 3) := by decide +kernel
theorem dX8_hear_20 : decode cX8_hear 20 = .ok (.aload_n 0, 1) := by decide +kernel
theorem dX8_hear_21 : decode cX8_hear 21 = .ok (.aload_n 1, 1) := by decide +kernel
theorem dX8_hear_22 : decode cX8_hear 22 = .ok (.getfield 34, 3) := by decide +kernel
theorem dX8_hear_25 : decode cX8_hear 25 = .ok (.putfield 37, 3) := by decide +kernel
theorem dX8_hear_28 : decode cX8_hear 28 = .ok (.aload_n 0, 1) := by decide +kernel
theorem dX8_hear_29 : decode cX8_hear 29 = .ok (.iload_n 2, 1) := by decide +kernel
theorem dX8_hear_30 : decode cX8_hear 30 = .ok (.putfield 38, 3) := by decide +kernel
theorem dX8_hear_33 : decode cX8_hear 33 = .ok (.aload_n 0, 1) := by decide +kernel
theorem dX8_hear_34 : decode cX8_hear 34 = .ok (.aload_n 0, 1) := by decide +kernel
theorem dX8_hear_35 : decode cX8_hear 35 = .ok (.getfield 33, 3) := by decide +kernel
theorem dX8_hear_38 : decode cX8_hear 38 = .ok (.iload_n 3, 1) := by decide +kernel
theorem dX8_hear_39 : decode cX8_hear 39 = .ok (.iload 4, 2) := by decide +kernel
theorem dX8_hear_41 : decode cX8_hear 41 = .ok (.iconst 0, 1) := by decide +kernel
theorem dX8_hear_42 : decode cX8_hear 42 = .ok (.invokevirtual 41, 3) := by decide +kernel
theorem dX8_hear_45 : decode cX8_hear 45 = .ok (.ireturn, 1) := by decide +kernel
def fX8_hear (a1 : Nat) (a2 : Int32) (a3 : Int32) (a4 : Int32) (M : Mm) : Option (Int32 × Mm) :=
  bd (fX5_clear 157 M) fun r1 M2 =>
  lt (wr M2 156 1 (0 : Int32)) fun M3 =>
  gd (isC layC a1 3) <|
  lt (wr M3 156 2 (M3 a1 0)) fun M5 =>
  lt (wr M5 156 3 (M5 a1 1)) fun M6 =>
  lt (wr M6 156 4 a2) fun M7 =>
  bd (fX8_speak DPV (M7 156 2) a3 a4 (0 : Int32) M7) fun r8 M9 =>
  some (r8, M9)
theorem mX8_hear (l : Launch) (G : Gx) (a1 : Nat) (a2 : Int32) (a3 : Int32) (a4 : Int32) (M : Mm) : Mt cQi l layC G 49 yX8_hear cX8_hear 5 (some .int) [rf G 156, rf G a1, .int a2, .int a3, .int a4] M (fX8_hear a1 a2 a3 a4 M) := by
  refine Mt.of2 (own := RX8) (lv := [(0, rf G 156), (1, rf G a1), (2, .int a2), (3, .int a3), (4, .int a4)]) rfl (by decide +kernel) rfl rfl ?_
  unfold fX8_hear
  refine s_aload_n 0 dX8_hear_0 rfl rfl ?_
  refine g_X8_16 (q := 157) rfl rfl dX8_hear_1 ?_
  refine s_call_v (s_runV (ci := 5) (rest := []) rfl rfl (mX5_clear l G 157 M) ok_X5_clear k_X8_20 rfl rfl rfl rfl dX8_hear_4) fun r1 M2 => ?_
  refine s_aload_n 0 dX8_hear_7 rfl rfl ?_
  refine s_iconst (v := 0) dX8_hear_8 ci_0 ?_
  refine p_X8_23 rfl ⟨rfl, rfl⟩ dX8_hear_9 ?_
  refine s_letM fun M3 => ?_
  refine s_aload_n 0 dX8_hear_12 rfl rfl ?_
  refine s_aload_n 1 dX8_hear_13 rfl rfl ?_
  refine s_gd fun h4 => ?_
  refine g_X8_27 h4 dX8_hear_14 ?_
  refine p_X8_33 rfl dX8_hear_17 ?_
  refine s_letM fun M5 => ?_
  refine s_aload_n 0 dX8_hear_20 rfl rfl ?_
  refine s_aload_n 1 dX8_hear_21 rfl rfl ?_
  refine g_X8_34 h4 dX8_hear_22 ?_
  refine p_X8_37 rfl dX8_hear_25 ?_
  refine s_letM fun M6 => ?_
  refine s_aload_n 0 dX8_hear_28 rfl rfl ?_
  refine s_iload_n 2 dX8_hear_29 rfl rfl ?_
  refine p_X8_38 rfl dX8_hear_30 ?_
  refine s_letM fun M7 => ?_
  refine s_aload_n 0 dX8_hear_33 rfl rfl ?_
  refine s_aload_n 0 dX8_hear_34 rfl rfl ?_
  refine g_X8_33 rfl dX8_hear_35 ?_
  refine s_iload_n 3 dX8_hear_38 rfl rfl ?_
  refine s_iload 4 dX8_hear_39 rfl ?_
  refine s_iconst (v := 0) dX8_hear_41 ci_0 ?_
  refine s_call_i (s_runV (ci := 8) (rest := []) rfl rfl (mX8_speak l G DPV (M7 156 2) a3 a4 (0 : Int32) M7) ok_X8_speak k_X8_41 rfl rfl rfl rfl dX8_hear_42) fun r8 M9 => ?_
  exact s_iret rfl dX8_hear_45
