theorem dX10_error_0 : decode cX10_error 0 = .ok (.aload_n 0, 1) := by decide +kernel
theorem dX10_error_1 : decode cX10_error 1 = .ok (.getfield 19, 3) := by decide +kernel
theorem dX10_error_4 : decode cX10_error 4 = .ok (.iload_n 1, 1) := by decide +kernel
theorem dX10_error_5 : decode cX10_error 5 = .ok (.dup2, 1) := by decide +kernel
theorem dX10_error_6 : decode cX10_error 6 = .ok (.iaload, 1) := by decide +kernel
theorem dX10_error_7 : decode cX10_error 7 = .ok (.iconst 1, 1) := by decide +kernel
theorem dX10_error_8 : decode cX10_error 8 = .ok (.iadd, 1) := by decide +kernel
theorem dX10_error_9 : decode cX10_error 9 = .ok (.iastore, 1) := by decide +kernel
theorem dX10_error_10 : decode cX10_error 10 = .ok (.ldc 58, 2) := by decide +kernel
theorem dX10_error_12 : decode cX10_error 12 = .ok (.iload_n 1, 1) := by decide +kernel
theorem dX10_error_13 : decode cX10_error 13 = .ok (.isub, 1) := by decide +kernel
theorem dX10_error_14 : decode cX10_error 14 = .ok (.ireturn, 1) := by decide +kernel
def fX10_error (a1 : Int32) (M : Mm) : Option (Int32 × Mm) :=
  gd (inb a1 7) <|
  lt (wr M 4 (ix a1) ((M 4 (ix a1)) + (1 : Int32))) fun M2 =>
  some ((-1000000000 : Int32) - a1, M2)
theorem mX10_error (l : Launch) (G : Gx) (a1 : Int32) (M : Mm) : Mt cQi l layM G 1 yX10_error cX10_error 2 (some .int) [rf G 0, .int a1] M (fX10_error a1 M) := by
  refine Mt.of2 (own := RX10) (lv := [(0, rf G 0), (1, .int a1)]) rfl (by decide +kernel) rfl rfl ?_
  unfold fX10_error
  refine s_aload_n 0 dX10_error_0 rfl rfl ?_
  refine g_X10_19 (q := 4) rfl rfl dX10_error_1 ?_
  refine s_iload_n 1 dX10_error_4 rfl rfl ?_
  refine s_dup2 dX10_error_5 rfl rfl ?_
  refine s_gd fun h1 => ?_
  refine s_iald (n := 7) rfl h1 dX10_error_6 ?_
  refine s_iconst (v := 1) dX10_error_7 ci_1 ?_
  refine s_iadd dX10_error_8 ?_
  refine s_iast (n := 7) rfl h1 dX10_error_9 ?_
  refine s_letM fun M2 => ?_
  refine s_ldc (v := -1000000000) dX10_error_10 q_1080 ?_
  refine s_iload_n 1 dX10_error_12 rfl rfl ?_
  refine s_isub dX10_error_13 ?_
  exact s_iret rfl dX10_error_14
theorem dX10_in_0 : decode cX10_in 0 = .ok (.iload_n 0, 1) := by decide +kernel
theorem dX10_in_1 : decode cX10_in 1 = .ok (.iload_n 1, 1) := by decide +kernel
theorem dX10_in_2 : decode cX10_in 2 = .ok (.if_icmp .lt 12, 3) := by decide +kernel
theorem dX10_in_5 : decode cX10_in 5 = .ok (.iload_n 0, 1) := by decide +kernel
theorem dX10_in_6 : decode cX10_in 6 = .ok (.iload_n 2, 1) := by decide +kernel
theorem dX10_in_7 : decode cX10_in 7 = .ok (.if_icmp .gt 7, 3) := by decide +kernel
theorem dX10_in_10 : decode cX10_in 10 = .ok (.iconst 1, 1) := by decide +kernel
theorem dX10_in_11 : decode cX10_in 11 = .ok (.goto 4, 3) := by decide +kernel
theorem dX10_in_14 : decode cX10_in 14 = .ok (.iconst 0, 1) := by decide +kernel
theorem dX10_in_15 : decode cX10_in 15 = .ok (.ireturn, 1) := by decide +kernel
def fX10_in_B15 (w0 : Int32) (M : Mm) : Option (Bool × Mm) :=
  gd (isb w0) (some (decide (w0 = 1), M))
theorem tX10_in_B15 (l : Launch) (G : Gx) (w0 : Int32) (M : Mm) : Sim cQz l layM G 1 cX10_in RX10 3 (some .boolean) 15 [] [.int w0] M (fX10_in_B15 w0 M) := by
  unfold fX10_in_B15
  exact s_zretI rfl dX10_in_15
def fX10_in_B14 (M : Mm) : Option (Bool × Mm) :=
  fX10_in_B15 (0 : Int32) M
theorem tX10_in_B14 (l : Launch) (G : Gx) (M : Mm) : Sim cQz l layM G 1 cX10_in RX10 3 (some .boolean) 14 [] [] M (fX10_in_B14 M) := by
  unfold fX10_in_B14
  refine s_iconst (v := 0) dX10_in_14 ci_0 ?_
  exact s_sub [] rfl (tX10_in_B15 l G (0 : Int32) M)
def fX10_in (a1 : Int32) (a2 : Int32) (a3 : Int32) (M : Mm) : Option (Bool × Mm) :=
  if a1 < a2 then (fX10_in_B14 M)
  else if a3 < a1 then (fX10_in_B14 M)
  else fX10_in_B15 (1 : Int32) M
theorem mX10_in (l : Launch) (G : Gx) (a1 : Int32) (a2 : Int32) (a3 : Int32) (M : Mm) : Mt cQz l layM G 1 yX10_in cX10_in 3 (some .boolean) [.int a1, .int a2, .int a3] M (fX10_in a1 a2 a3 M) := by
  refine Mt.of2 (own := RX10) (lv := [(0, .int a1), (1, .int a2), (2, .int a3)]) rfl (by decide +kernel) rfl rfl ?_
  unfold fX10_in
  refine s_iload_n 0 dX10_in_0 rfl rfl ?_
  refine s_iload_n 1 dX10_in_1 rfl rfl ?_
  refine s_icmplt (tgt := 14) dX10_in_2 (by decide) ?_ ?_
  · exact s_sub [] rfl (tX10_in_B14 l G M)
  · refine s_iload_n 0 dX10_in_5 rfl rfl ?_
    refine s_iload_n 2 dX10_in_6 rfl rfl ?_
    refine s_icmpgt (tgt := 14) dX10_in_7 (by decide) ?_ ?_
    · exact s_sub [] rfl (tX10_in_B14 l G M)
    · refine s_iconst (v := 1) dX10_in_10 ci_1 ?_
      refine s_goto (tgt := 15) dX10_in_11 (by decide) ?_
      exact s_sub [] rfl (tX10_in_B15 l G (1 : Int32) M)
theorem dX10_held_0 : decode cX10_held 0 = .ok (.iload_n 0, 1) := by decide +kernel
theorem dX10_held_1 : decode cX10_held 1 = .ok (.iload_n 1, 1) := by decide +kernel
theorem dX10_held_2 : decode cX10_held 2 = .ok (.if_icmp .ge 7, 3) := by decide +kernel
theorem dX10_held_5 : decode cX10_held 5 = .ok (.iload_n 1, 1) := by decide +kernel
theorem dX10_held_6 : decode cX10_held 6 = .ok (.goto 13, 3) := by decide +kernel
theorem dX10_held_9 : decode cX10_held 9 = .ok (.iload_n 0, 1) := by decide +kernel
theorem dX10_held_10 : decode cX10_held 10 = .ok (.iload_n 2, 1) := by decide +kernel
theorem dX10_held_11 : decode cX10_held 11 = .ok (.if_icmp .le 7, 3) := by decide +kernel
theorem dX10_held_14 : decode cX10_held 14 = .ok (.iload_n 2, 1) := by decide +kernel
theorem dX10_held_15 : decode cX10_held 15 = .ok (.goto 4, 3) := by decide +kernel
theorem dX10_held_18 : decode cX10_held 18 = .ok (.iload_n 0, 1) := by decide +kernel
theorem dX10_held_19 : decode cX10_held 19 = .ok (.ireturn, 1) := by decide +kernel
def fX10_held_B19 (w0 : Int32) (M : Mm) : Option (Int32 × Mm) :=
  some (w0, M)
theorem tX10_held_B19 (l : Launch) (G : Gx) (w0 : Int32) (M : Mm) : Sim cQi l layM G 1 cX10_held RX10 3 (some .int) 19 [] [.int w0] M (fX10_held_B19 w0 M) := by
  unfold fX10_held_B19
  exact s_iret rfl dX10_held_19
def fX10_held (a1 : Int32) (a2 : Int32) (a3 : Int32) (M : Mm) : Option (Int32 × Mm) :=
  if a2 ≤ a1 then (if a1 ≤ a3 then (fX10_held_B19 a1 M)
  else fX10_held_B19 a3 M)
  else fX10_held_B19 a2 M
theorem mX10_held (l : Launch) (G : Gx) (a1 : Int32) (a2 : Int32) (a3 : Int32) (M : Mm) : Mt cQi l layM G 1 yX10_held cX10_held 3 (some .int) [.int a1, .int a2, .int a3] M (fX10_held a1 a2 a3 M) := by
  refine Mt.of2 (own := RX10) (lv := [(0, .int a1), (1, .int a2), (2, .int a3)]) rfl (by decide +kernel) rfl rfl ?_
  unfold fX10_held
  refine s_iload_n 0 dX10_held_0 rfl rfl ?_
  refine s_iload_n 1 dX10_held_1 rfl rfl ?_
  refine s_icmpge (tgt := 9) dX10_held_2 (by decide) ?_ ?_
  · refine s_iload_n 0 dX10_held_9 rfl rfl ?_
    refine s_iload_n 2 dX10_held_10 rfl rfl ?_
    refine s_icmple (tgt := 18) dX10_held_11 (by decide) ?_ ?_
    · refine s_iload_n 0 dX10_held_18 rfl rfl ?_
      exact s_sub [] rfl (tX10_held_B19 l G a1 M)
    · refine s_iload_n 2 dX10_held_14 rfl rfl ?_
      refine s_goto (tgt := 19) dX10_held_15 (by decide) ?_
      exact s_sub [] rfl (tX10_held_B19 l G a3 M)
  · refine s_iload_n 1 dX10_held_5 rfl rfl ?_
    refine s_goto (tgt := 19) dX10_held_6 (by decide) ?_
    exact s_sub [] rfl (tX10_held_B19 l G a2 M)
theorem dX10_carry_0 : decode cX10_carry 0 = .ok (.iconst 0, 1) := by decide +kernel
theorem dX10_carry_1 : decode cX10_carry 1 = .ok (.istore_n 2, 1) := by decide +kernel
theorem dX10_carry_2 : decode cX10_carry 2 = .ok (.iload_n 2, 1) := by decide +kernel
theorem dX10_carry_3 : decode cX10_carry 3 = .ok (.sipush 626, 3) := by decide +kernel
theorem dX10_carry_6 : decode cX10_carry 6 = .ok (.if_icmp .ge 15, 3) := by decide +kernel
theorem dX10_carry_9 : decode cX10_carry 9 = .ok (.aload_n 1, 1) := by decide +kernel
theorem dX10_carry_10 : decode cX10_carry 10 = .ok (.iload_n 2, 1) := by decide +kernel
theorem dX10_carry_11 : decode cX10_carry 11 = .ok (.aload_n 0, 1) := by decide +kernel
theorem dX10_carry_12 : decode cX10_carry 12 = .ok (.iload_n 2, 1) := by decide +kernel
theorem dX10_carry_13 : decode cX10_carry 13 = .ok (.iaload, 1) := by decide +kernel
theorem dX10_carry_14 : decode cX10_carry 14 = .ok (.iastore, 1) := by decide +kernel
theorem dX10_carry_15 : decode cX10_carry 15 = .ok (.iinc 2 1, 3) := by decide +kernel
theorem dX10_carry_18 : decode cX10_carry 18 = .ok (.goto (-16), 3) := by decide +kernel
theorem dX10_carry_21 : decode cX10_carry 21 = .ok (.return_, 1) := by decide +kernel
def fX10_carry_1_3_B21 (M : Mm) : Option (Unit × Mm) :=
  some ((), M)
theorem tX10_carry_1_3_B21 (l : Launch) (G : Gx) (M : Mm) : Sim cQv l layM G 1 cX10_carry RX10 3 none 21 [] [] M (fX10_carry_1_3_B21 M) := by
  unfold fX10_carry_1_3_B21
  exact s_vret rfl dX10_carry_21
def fX10_carry_1_3_L2b (q2 : Int32 → Mm → Option (Unit × Mm)) (v2 : Int32) (M : Mm) : Option (Unit × Mm) :=
  if (626 : Int32) ≤ v2 then (fX10_carry_1_3_B21 M)
  else gd (inb v2 626) <|
  lt (wr M 3 (ix v2) (M 1 (ix v2))) fun M2 =>
  q2 (v2 + 1) M2
def fX10_carry_1_3_L2  : Nat → Int32 → Mm → Option (Unit × Mm)
  | 0 => fun _ _ => none
  | n + 1 => fX10_carry_1_3_L2b  (fX10_carry_1_3_L2  n)
theorem tX10_carry_1_3_L2b (l : Launch) (G : Gx) (q2 : Int32 → Mm → Option (Unit × Mm)) (hq2 : ∀ (v2 : Int32) (M : Mm), Sim cQv l layM G 1 cX10_carry RX10 3 none 2 [(2, .int v2), (0, rf G 1), (1, rf G 3)] [] M (q2 v2 M)) (v2 : Int32) (M : Mm) : Sim cQv l layM G 1 cX10_carry RX10 3 none 2 [(2, .int v2), (0, rf G 1), (1, rf G 3)] [] M (fX10_carry_1_3_L2b q2 v2 M) := by
  unfold fX10_carry_1_3_L2b
  refine s_iload_n 0 dX10_carry_2 rfl rfl ?_
  refine s_sipush (v := 626) dX10_carry_3 cs_626 ?_
  refine s_icmpge (tgt := 21) dX10_carry_6 (by decide) ?_ ?_
  · exact s_sub [] rfl (tX10_carry_1_3_B21 l G M)
  · refine s_aload_n 2 dX10_carry_9 rfl rfl ?_
    refine s_iload_n 0 dX10_carry_10 rfl rfl ?_
    refine s_aload_n 1 dX10_carry_11 rfl rfl ?_
    refine s_iload_n 0 dX10_carry_12 rfl rfl ?_
    refine s_gd fun h1 => ?_
    refine s_iald (n := 626) rfl h1 dX10_carry_13 ?_
    refine s_iast (n := 626) rfl h1 dX10_carry_14 ?_
    refine s_letM fun M2 => ?_
    refine s_iinc (k := 0) (lv' := [(2, .int (v2 + 1)), (0, rf G 1), (1, rf G 3)]) dX10_carry_15 rfl ci_1 rfl rfl ?_
    refine s_goto (tgt := 2) dX10_carry_18 (by decide) ?_
    exact s_sub [0, 1, 2] rfl (hq2 (v2 + 1) M2)
theorem tX10_carry_1_3_L2 (l : Launch) (G : Gx) : ∀ (n : Nat) (v2 : Int32) (M : Mm), Sim cQv l layM G 1 cX10_carry RX10 3 none 2 [(2, .int v2), (0, rf G 1), (1, rf G 3)] [] M (fX10_carry_1_3_L2 n v2 M)
  | 0, _, _ => s_none
  | n + 1, v2, M => tX10_carry_1_3_L2b l G _ (tX10_carry_1_3_L2 l G n) v2 M
def fX10_carry_1_3  (M : Mm) : Option (Unit × Mm) :=
  fX10_carry_1_3_L2 FU (0 : Int32) M
theorem mX10_carry_1_3 (l : Launch) (G : Gx)  (M : Mm) : Mt cQv l layM G 1 yX10_carry cX10_carry 3 none [rf G 1, rf G 3] M (fX10_carry_1_3 M) := by
  refine Mt.of2 (own := RX10) (lv := [(0, rf G 1), (1, rf G 3)]) rfl (by decide +kernel) rfl rfl ?_
  unfold fX10_carry_1_3
  refine s_iconst (v := 0) dX10_carry_0 ci_0 ?_
  refine s_istore_n (lv' := [(2, .int (0 : Int32)), (0, rf G 1), (1, rf G 3)]) dX10_carry_1 rfl rfl rfl ?_
  exact s_sub [0, 1, 2] rfl (tX10_carry_1_3_L2 l G FU (0 : Int32) M)
def fX10_carry_3_1_B21 (M : Mm) : Option (Unit × Mm) :=
  some ((), M)
theorem tX10_carry_3_1_B21 (l : Launch) (G : Gx) (M : Mm) : Sim cQv l layM G 1 cX10_carry RX10 3 none 21 [] [] M (fX10_carry_3_1_B21 M) := by
  unfold fX10_carry_3_1_B21
  exact s_vret rfl dX10_carry_21
def fX10_carry_3_1_L2b (q2 : Int32 → Mm → Option (Unit × Mm)) (v2 : Int32) (M : Mm) : Option (Unit × Mm) :=
  if (626 : Int32) ≤ v2 then (fX10_carry_3_1_B21 M)
  else gd (inb v2 626) <|
  lt (wr M 1 (ix v2) (M 3 (ix v2))) fun M2 =>
  q2 (v2 + 1) M2
def fX10_carry_3_1_L2  : Nat → Int32 → Mm → Option (Unit × Mm)
  | 0 => fun _ _ => none
  | n + 1 => fX10_carry_3_1_L2b  (fX10_carry_3_1_L2  n)
theorem tX10_carry_3_1_L2b (l : Launch) (G : Gx) (q2 : Int32 → Mm → Option (Unit × Mm)) (hq2 : ∀ (v2 : Int32) (M : Mm), Sim cQv l layM G 1 cX10_carry RX10 3 none 2 [(2, .int v2), (0, rf G 3), (1, rf G 1)] [] M (q2 v2 M)) (v2 : Int32) (M : Mm) : Sim cQv l layM G 1 cX10_carry RX10 3 none 2 [(2, .int v2), (0, rf G 3), (1, rf G 1)] [] M (fX10_carry_3_1_L2b q2 v2 M) := by
  unfold fX10_carry_3_1_L2b
  refine s_iload_n 0 dX10_carry_2 rfl rfl ?_
  refine s_sipush (v := 626) dX10_carry_3 cs_626 ?_
  refine s_icmpge (tgt := 21) dX10_carry_6 (by decide) ?_ ?_
  · exact s_sub [] rfl (tX10_carry_3_1_B21 l G M)
  · refine s_aload_n 2 dX10_carry_9 rfl rfl ?_
    refine s_iload_n 0 dX10_carry_10 rfl rfl ?_
    refine s_aload_n 1 dX10_carry_11 rfl rfl ?_
    refine s_iload_n 0 dX10_carry_12 rfl rfl ?_
    refine s_gd fun h1 => ?_
    refine s_iald (n := 626) rfl h1 dX10_carry_13 ?_
    refine s_iast (n := 626) rfl h1 dX10_carry_14 ?_
    refine s_letM fun M2 => ?_
    refine s_iinc (k := 0) (lv' := [(2, .int (v2 + 1)), (0, rf G 3), (1, rf G 1)]) dX10_carry_15 rfl ci_1 rfl rfl ?_
    refine s_goto (tgt := 2) dX10_carry_18 (by decide) ?_
    exact s_sub [0, 1, 2] rfl (hq2 (v2 + 1) M2)
theorem tX10_carry_3_1_L2 (l : Launch) (G : Gx) : ∀ (n : Nat) (v2 : Int32) (M : Mm), Sim cQv l layM G 1 cX10_carry RX10 3 none 2 [(2, .int v2), (0, rf G 3), (1, rf G 1)] [] M (fX10_carry_3_1_L2 n v2 M)
  | 0, _, _ => s_none
  | n + 1, v2, M => tX10_carry_3_1_L2b l G _ (tX10_carry_3_1_L2 l G n) v2 M
def fX10_carry_3_1  (M : Mm) : Option (Unit × Mm) :=
  fX10_carry_3_1_L2 FU (0 : Int32) M
theorem mX10_carry_3_1 (l : Launch) (G : Gx)  (M : Mm) : Mt cQv l layM G 1 yX10_carry cX10_carry 3 none [rf G 3, rf G 1] M (fX10_carry_3_1 M) := by
  refine Mt.of2 (own := RX10) (lv := [(0, rf G 3), (1, rf G 1)]) rfl (by decide +kernel) rfl rfl ?_
  unfold fX10_carry_3_1
  refine s_iconst (v := 0) dX10_carry_0 ci_0 ?_
  refine s_istore_n (lv' := [(2, .int (0 : Int32)), (0, rf G 3), (1, rf G 1)]) dX10_carry_1 rfl rfl rfl ?_
  exact s_sub [0, 1, 2] rfl (tX10_carry_3_1_L2 l G FU (0 : Int32) M)
def fX10_carry_1_2_B21 (M : Mm) : Option (Unit × Mm) :=
  some ((), M)
theorem tX10_carry_1_2_B21 (l : Launch) (G : Gx) (M : Mm) : Sim cQv l layM G 1 cX10_carry RX10 3 none 21 [] [] M (fX10_carry_1_2_B21 M) := by
  unfold fX10_carry_1_2_B21
  exact s_vret rfl dX10_carry_21
def fX10_carry_1_2_L2b (q2 : Int32 → Mm → Option (Unit × Mm)) (v2 : Int32) (M : Mm) : Option (Unit × Mm) :=
  if (626 : Int32) ≤ v2 then (fX10_carry_1_2_B21 M)
  else gd (inb v2 626) <|
  lt (wr M 2 (ix v2) (M 1 (ix v2))) fun M2 =>
  q2 (v2 + 1) M2
def fX10_carry_1_2_L2  : Nat → Int32 → Mm → Option (Unit × Mm)
  | 0 => fun _ _ => none
  | n + 1 => fX10_carry_1_2_L2b  (fX10_carry_1_2_L2  n)
theorem tX10_carry_1_2_L2b (l : Launch) (G : Gx) (q2 : Int32 → Mm → Option (Unit × Mm)) (hq2 : ∀ (v2 : Int32) (M : Mm), Sim cQv l layM G 1 cX10_carry RX10 3 none 2 [(2, .int v2), (0, rf G 1), (1, rf G 2)] [] M (q2 v2 M)) (v2 : Int32) (M : Mm) : Sim cQv l layM G 1 cX10_carry RX10 3 none 2 [(2, .int v2), (0, rf G 1), (1, rf G 2)] [] M (fX10_carry_1_2_L2b q2 v2 M) := by
  unfold fX10_carry_1_2_L2b
  refine s_iload_n 0 dX10_carry_2 rfl rfl ?_
  refine s_sipush (v := 626) dX10_carry_3 cs_626 ?_
  refine s_icmpge (tgt := 21) dX10_carry_6 (by decide) ?_ ?_
  · exact s_sub [] rfl (tX10_carry_1_2_B21 l G M)
  · refine s_aload_n 2 dX10_carry_9 rfl rfl ?_
    refine s_iload_n 0 dX10_carry_10 rfl rfl ?_
    refine s_aload_n 1 dX10_carry_11 rfl rfl ?_
    refine s_iload_n 0 dX10_carry_12 rfl rfl ?_
    refine s_gd fun h1 => ?_
    refine s_iald (n := 626) rfl h1 dX10_carry_13 ?_
    refine s_iast (n := 626) rfl h1 dX10_carry_14 ?_
    refine s_letM fun M2 => ?_
    refine s_iinc (k := 0) (lv' := [(2, .int (v2 + 1)), (0, rf G 1), (1, rf G 2)]) dX10_carry_15 rfl ci_1 rfl rfl ?_
    refine s_goto (tgt := 2) dX10_carry_18 (by decide) ?_
    exact s_sub [0, 1, 2] rfl (hq2 (v2 + 1) M2)
theorem tX10_carry_1_2_L2 (l : Launch) (G : Gx) : ∀ (n : Nat) (v2 : Int32) (M : Mm), Sim cQv l layM G 1 cX10_carry RX10 3 none 2 [(2, .int v2), (0, rf G 1), (1, rf G 2)] [] M (fX10_carry_1_2_L2 n v2 M)
  | 0, _, _ => s_none
  | n + 1, v2, M => tX10_carry_1_2_L2b l G _ (tX10_carry_1_2_L2 l G n) v2 M
def fX10_carry_1_2  (M : Mm) : Option (Unit × Mm) :=
  fX10_carry_1_2_L2 FU (0 : Int32) M
theorem mX10_carry_1_2 (l : Launch) (G : Gx)  (M : Mm) : Mt cQv l layM G 1 yX10_carry cX10_carry 3 none [rf G 1, rf G 2] M (fX10_carry_1_2 M) := by
  refine Mt.of2 (own := RX10) (lv := [(0, rf G 1), (1, rf G 2)]) rfl (by decide +kernel) rfl rfl ?_
  unfold fX10_carry_1_2
  refine s_iconst (v := 0) dX10_carry_0 ci_0 ?_
  refine s_istore_n (lv' := [(2, .int (0 : Int32)), (0, rf G 1), (1, rf G 2)]) dX10_carry_1 rfl rfl rfl ?_
  exact s_sub [0, 1, 2] rfl (tX10_carry_1_2_L2 l G FU (0 : Int32) M)
def fX10_carry_2_1_B21 (M : Mm) : Option (Unit × Mm) :=
  some ((), M)
theorem tX10_carry_2_1_B21 (l : Launch) (G : Gx) (M : Mm) : Sim cQv l layM G 1 cX10_carry RX10 3 none 21 [] [] M (fX10_carry_2_1_B21 M) := by
  unfold fX10_carry_2_1_B21
  exact s_vret rfl dX10_carry_21
def fX10_carry_2_1_L2b (q2 : Int32 → Mm → Option (Unit × Mm)) (v2 : Int32) (M : Mm) : Option (Unit × Mm) :=
  if (626 : Int32) ≤ v2 then (fX10_carry_2_1_B21 M)
  else gd (inb v2 626) <|
  lt (wr M 1 (ix v2) (M 2 (ix v2))) fun M2 =>
  q2 (v2 + 1) M2
def fX10_carry_2_1_L2  : Nat → Int32 → Mm → Option (Unit × Mm)
  | 0 => fun _ _ => none
  | n + 1 => fX10_carry_2_1_L2b  (fX10_carry_2_1_L2  n)
theorem tX10_carry_2_1_L2b (l : Launch) (G : Gx) (q2 : Int32 → Mm → Option (Unit × Mm)) (hq2 : ∀ (v2 : Int32) (M : Mm), Sim cQv l layM G 1 cX10_carry RX10 3 none 2 [(2, .int v2), (0, rf G 2), (1, rf G 1)] [] M (q2 v2 M)) (v2 : Int32) (M : Mm) : Sim cQv l layM G 1 cX10_carry RX10 3 none 2 [(2, .int v2), (0, rf G 2), (1, rf G 1)] [] M (fX10_carry_2_1_L2b q2 v2 M) := by
  unfold fX10_carry_2_1_L2b
  refine s_iload_n 0 dX10_carry_2 rfl rfl ?_
  refine s_sipush (v := 626) dX10_carry_3 cs_626 ?_
  refine s_icmpge (tgt := 21) dX10_carry_6 (by decide) ?_ ?_
  · exact s_sub [] rfl (tX10_carry_2_1_B21 l G M)
  · refine s_aload_n 2 dX10_carry_9 rfl rfl ?_
    refine s_iload_n 0 dX10_carry_10 rfl rfl ?_
    refine s_aload_n 1 dX10_carry_11 rfl rfl ?_
    refine s_iload_n 0 dX10_carry_12 rfl rfl ?_
    refine s_gd fun h1 => ?_
    refine s_iald (n := 626) rfl h1 dX10_carry_13 ?_
    refine s_iast (n := 626) rfl h1 dX10_carry_14 ?_
    refine s_letM fun M2 => ?_
    refine s_iinc (k := 0) (lv' := [(2, .int (v2 + 1)), (0, rf G 2), (1, rf G 1)]) dX10_carry_15 rfl ci_1 rfl rfl ?_
    refine s_goto (tgt := 2) dX10_carry_18 (by decide) ?_
    exact s_sub [0, 1, 2] rfl (hq2 (v2 + 1) M2)
theorem tX10_carry_2_1_L2 (l : Launch) (G : Gx) : ∀ (n : Nat) (v2 : Int32) (M : Mm), Sim cQv l layM G 1 cX10_carry RX10 3 none 2 [(2, .int v2), (0, rf G 2), (1, rf G 1)] [] M (fX10_carry_2_1_L2 n v2 M)
  | 0, _, _ => s_none
  | n + 1, v2, M => tX10_carry_2_1_L2b l G _ (tX10_carry_2_1_L2 l G n) v2 M
def fX10_carry_2_1  (M : Mm) : Option (Unit × Mm) :=
  fX10_carry_2_1_L2 FU (0 : Int32) M
theorem mX10_carry_2_1 (l : Launch) (G : Gx)  (M : Mm) : Mt cQv l layM G 1 yX10_carry cX10_carry 3 none [rf G 2, rf G 1] M (fX10_carry_2_1 M) := by
  refine Mt.of2 (own := RX10) (lv := [(0, rf G 2), (1, rf G 1)]) rfl (by decide +kernel) rfl rfl ?_
  unfold fX10_carry_2_1
  refine s_iconst (v := 0) dX10_carry_0 ci_0 ?_
  refine s_istore_n (lv' := [(2, .int (0 : Int32)), (0, rf G 2), (1, rf G 1)]) dX10_carry_1 rfl rfl rfl ?_
  exact s_sub [0, 1, 2] rfl (tX10_carry_2_1_L2 l G FU (0 : Int32) M)
def fX10_carry_1_11_B21 (M : Mm) : Option (Unit × Mm) :=
  some ((), M)
theorem tX10_carry_1_11_B21 (l : Launch) (G : Gx) (M : Mm) : Sim cQv l layM G 1 cX10_carry RX10 3 none 21 [] [] M (fX10_carry_1_11_B21 M) := by
  unfold fX10_carry_1_11_B21
  exact s_vret rfl dX10_carry_21
def fX10_carry_1_11_L2b (q2 : Int32 → Mm → Option (Unit × Mm)) (v2 : Int32) (M : Mm) : Option (Unit × Mm) :=
  if (626 : Int32) ≤ v2 then (fX10_carry_1_11_B21 M)
  else gd (inb v2 626) <|
  lt (wr M 11 (ix v2) (M 1 (ix v2))) fun M2 =>
  q2 (v2 + 1) M2
def fX10_carry_1_11_L2  : Nat → Int32 → Mm → Option (Unit × Mm)
  | 0 => fun _ _ => none
  | n + 1 => fX10_carry_1_11_L2b  (fX10_carry_1_11_L2  n)
theorem tX10_carry_1_11_L2b (l : Launch) (G : Gx) (q2 : Int32 → Mm → Option (Unit × Mm)) (hq2 : ∀ (v2 : Int32) (M : Mm), Sim cQv l layM G 1 cX10_carry RX10 3 none 2 [(2, .int v2), (0, rf G 1), (1, rf G 11)] [] M (q2 v2 M)) (v2 : Int32) (M : Mm) : Sim cQv l layM G 1 cX10_carry RX10 3 none 2 [(2, .int v2), (0, rf G 1), (1, rf G 11)] [] M (fX10_carry_1_11_L2b q2 v2 M) := by
  unfold fX10_carry_1_11_L2b
  refine s_iload_n 0 dX10_carry_2 rfl rfl ?_
  refine s_sipush (v := 626) dX10_carry_3 cs_626 ?_
  refine s_icmpge (tgt := 21) dX10_carry_6 (by decide) ?_ ?_
  · exact s_sub [] rfl (tX10_carry_1_11_B21 l G M)
  · refine s_aload_n 2 dX10_carry_9 rfl rfl ?_
    refine s_iload_n 0 dX10_carry_10 rfl rfl ?_
    refine s_aload_n 1 dX10_carry_11 rfl rfl ?_
    refine s_iload_n 0 dX10_carry_12 rfl rfl ?_
    refine s_gd fun h1 => ?_
    refine s_iald (n := 626) rfl h1 dX10_carry_13 ?_
    refine s_iast (n := 626) rfl h1 dX10_carry_14 ?_
    refine s_letM fun M2 => ?_
    refine s_iinc (k := 0) (lv' := [(2, .int (v2 + 1)), (0, rf G 1), (1, rf G 11)]) dX10_carry_15 rfl ci_1 rfl rfl ?_
    refine s_goto (tgt := 2) dX10_carry_18 (by decide) ?_
    exact s_sub [0, 1, 2] rfl (hq2 (v2 + 1) M2)
theorem tX10_carry_1_11_L2 (l : Launch) (G : Gx) : ∀ (n : Nat) (v2 : Int32) (M : Mm), Sim cQv l layM G 1 cX10_carry RX10 3 none 2 [(2, .int v2), (0, rf G 1), (1, rf G 11)] [] M (fX10_carry_1_11_L2 n v2 M)
  | 0, _, _ => s_none
  | n + 1, v2, M => tX10_carry_1_11_L2b l G _ (tX10_carry_1_11_L2 l G n) v2 M
def fX10_carry_1_11  (M : Mm) : Option (Unit × Mm) :=
  fX10_carry_1_11_L2 FU (0 : Int32) M
theorem mX10_carry_1_11 (l : Launch) (G : Gx)  (M : Mm) : Mt cQv l layM G 1 yX10_carry cX10_carry 3 none [rf G 1, rf G 11] M (fX10_carry_1_11 M) := by
  refine Mt.of2 (own := RX10) (lv := [(0, rf G 1), (1, rf G 11)]) rfl (by decide +kernel) rfl rfl ?_
  unfold fX10_carry_1_11
  refine s_iconst (v := 0) dX10_carry_0 ci_0 ?_
  refine s_istore_n (lv' := [(2, .int (0 : Int32)), (0, rf G 1), (1, rf G 11)]) dX10_carry_1 rfl rfl rfl ?_
  exact s_sub [0, 1, 2] rfl (tX10_carry_1_11_L2 l G FU (0 : Int32) M)
def fX10_carry_11_1_B21 (M : Mm) : Option (Unit × Mm) :=
  some ((), M)
theorem tX10_carry_11_1_B21 (l : Launch) (G : Gx) (M : Mm) : Sim cQv l layM G 1 cX10_carry RX10 3 none 21 [] [] M (fX10_carry_11_1_B21 M) := by
  unfold fX10_carry_11_1_B21
  exact s_vret rfl dX10_carry_21
def fX10_carry_11_1_L2b (q2 : Int32 → Mm → Option (Unit × Mm)) (v2 : Int32) (M : Mm) : Option (Unit × Mm) :=
  if (626 : Int32) ≤ v2 then (fX10_carry_11_1_B21 M)
  else gd (inb v2 626) <|
  lt (wr M 1 (ix v2) (M 11 (ix v2))) fun M2 =>
  q2 (v2 + 1) M2
def fX10_carry_11_1_L2  : Nat → Int32 → Mm → Option (Unit × Mm)
  | 0 => fun _ _ => none
  | n + 1 => fX10_carry_11_1_L2b  (fX10_carry_11_1_L2  n)
theorem tX10_carry_11_1_L2b (l : Launch) (G : Gx) (q2 : Int32 → Mm → Option (Unit × Mm)) (hq2 : ∀ (v2 : Int32) (M : Mm), Sim cQv l layM G 1 cX10_carry RX10 3 none 2 [(2, .int v2), (0, rf G 11), (1, rf G 1)] [] M (q2 v2 M)) (v2 : Int32) (M : Mm) : Sim cQv l layM G 1 cX10_carry RX10 3 none 2 [(2, .int v2), (0, rf G 11), (1, rf G 1)] [] M (fX10_carry_11_1_L2b q2 v2 M) := by
  unfold fX10_carry_11_1_L2b
  refine s_iload_n 0 dX10_carry_2 rfl rfl ?_
  refine s_sipush (v := 626) dX10_carry_3 cs_626 ?_
  refine s_icmpge (tgt := 21) dX10_carry_6 (by decide) ?_ ?_
  · exact s_sub [] rfl (tX10_carry_11_1_B21 l G M)
  · refine s_aload_n 2 dX10_carry_9 rfl rfl ?_
    refine s_iload_n 0 dX10_carry_10 rfl rfl ?_
    refine s_aload_n 1 dX10_carry_11 rfl rfl ?_
    refine s_iload_n 0 dX10_carry_12 rfl rfl ?_
    refine s_gd fun h1 => ?_
    refine s_iald (n := 626) rfl h1 dX10_carry_13 ?_
    refine s_iast (n := 626) rfl h1 dX10_carry_14 ?_
    refine s_letM fun M2 => ?_
    refine s_iinc (k := 0) (lv' := [(2, .int (v2 + 1)), (0, rf G 11), (1, rf G 1)]) dX10_carry_15 rfl ci_1 rfl rfl ?_
    refine s_goto (tgt := 2) dX10_carry_18 (by decide) ?_
    exact s_sub [0, 1, 2] rfl (hq2 (v2 + 1) M2)
theorem tX10_carry_11_1_L2 (l : Launch) (G : Gx) : ∀ (n : Nat) (v2 : Int32) (M : Mm), Sim cQv l layM G 1 cX10_carry RX10 3 none 2 [(2, .int v2), (0, rf G 11), (1, rf G 1)] [] M (fX10_carry_11_1_L2 n v2 M)
  | 0, _, _ => s_none
  | n + 1, v2, M => tX10_carry_11_1_L2b l G _ (tX10_carry_11_1_L2 l G n) v2 M
def fX10_carry_11_1  (M : Mm) : Option (Unit × Mm) :=
  fX10_carry_11_1_L2 FU (0 : Int32) M
theorem mX10_carry_11_1 (l : Launch) (G : Gx)  (M : Mm) : Mt cQv l layM G 1 yX10_carry cX10_carry 3 none [rf G 11, rf G 1] M (fX10_carry_11_1 M) := by
  refine Mt.of2 (own := RX10) (lv := [(0, rf G 11), (1, rf G 1)]) rfl (by decide +kernel) rfl rfl ?_
  unfold fX10_carry_11_1
  refine s_iconst (v := 0) dX10_carry_0 ci_0 ?_
  refine s_istore_n (lv' := [(2, .int (0 : Int32)), (0, rf G 11), (1, rf G 1)]) dX10_carry_1 rfl rfl rfl ?_
  exact s_sub [0, 1, 2] rfl (tX10_carry_11_1_L2 l G FU (0 : Int32) M)
theorem dX10_isLetter_0 : decode cX10_isLetter 0 = .ok (.iload_n 1, 1) := by decide +kernel
theorem dX10_isLetter_1 : decode cX10_isLetter 1 = .ok (.iconst 0, 1) := by decide +kernel
theorem dX10_isLetter_2 : decode cX10_isLetter 2 = .ok (.aload_n 0, 1) := by decide +kernel
theorem dX10_isLetter_3 : decode cX10_isLetter 3 = .ok (.getfield 7, 3) := by decide +kernel
theorem dX10_isLetter_6 : decode cX10_isLetter 6 = .ok (.iconst 0, 1) := by decide +kernel
theorem dX10_isLetter_7 : decode cX10_isLetter 7 = .ok (.iaload, 1) := by decide +kernel
theorem dX10_isLetter_8 : decode cX10_isLetter 8 = .ok (.iconst 1, 1) := by decide +kernel
theorem dX10_isLetter_9 : decode cX10_isLetter 9 = .ok (.isub, 1) := by decide +kernel
theorem dX10_isLetter_10 : decode cX10_isLetter 10 = .ok (.invokestatic 59, 3) := by decide +kernel
theorem dX10_isLetter_13 : decode cX10_isLetter 13 = .ok (.ireturn, 1) := by decide +kernel
def fX10_isLetter (a1 : Int32) (M : Mm) : Option (Bool × Mm) :=
  bd (fX10_in a1 (0 : Int32) ((M 1 (ix (0 : Int32))) - (1 : Int32)) M) fun r1 M2 =>
  some (r1, M2)
theorem mX10_isLetter (l : Launch) (G : Gx) (a1 : Int32) (M : Mm) : Mt cQz l layM G 2 yX10_isLetter cX10_isLetter 2 (some .boolean) [rf G 0, .int a1] M (fX10_isLetter a1 M) := by
  refine Mt.of2 (own := RX10) (lv := [(0, rf G 0), (1, .int a1)]) rfl (by decide +kernel) rfl rfl ?_
  unfold fX10_isLetter
  refine s_iload_n 1 dX10_isLetter_0 rfl rfl ?_
  refine s_iconst (v := 0) dX10_isLetter_1 ci_0 ?_
  refine s_aload_n 0 dX10_isLetter_2 rfl rfl ?_
  refine g_X10_7 (q := 1) rfl rfl dX10_isLetter_3 ?_
  refine s_iconst (v := 0) dX10_isLetter_6 ci_0 ?_
  refine s_iald (n := 626) rfl (by decide) dX10_isLetter_7 ?_
  refine s_iconst (v := 1) dX10_isLetter_8 ci_1 ?_
  refine s_isub dX10_isLetter_9 ?_
  refine s_call_z (s_runS (rest := []) (mX10_in l G a1 (0 : Int32) ((M 1 (ix (0 : Int32))) - (1 : Int32)) M) ok_X10_in k_X10_59 rfl rfl rfl rfl dX10_isLetter_10) fun r1 M2 => ?_
  exact s_zretB rfl dX10_isLetter_13
theorem dX10_isPage_0 : decode cX10_isPage 0 = .ok (.iload_n 0, 1) := by decide +kernel
theorem dX10_isPage_1 : decode cX10_isPage 1 = .ok (.iconst 0, 1) := by decide +kernel
theorem dX10_isPage_2 : decode cX10_isPage 2 = .ok (.iconst 3, 1) := by decide +kernel
theorem dX10_isPage_3 : decode cX10_isPage 3 = .ok (.invokestatic 59, 3) := by decide +kernel
theorem dX10_isPage_6 : decode cX10_isPage 6 = .ok (.ireturn, 1) := by decide +kernel
def fX10_isPage (a1 : Int32) (M : Mm) : Option (Bool × Mm) :=
  bd (fX10_in a1 (0 : Int32) (3 : Int32) M) fun r1 M2 =>
  some (r1, M2)
theorem mX10_isPage (l : Launch) (G : Gx) (a1 : Int32) (M : Mm) : Mt cQz l layM G 2 yX10_isPage cX10_isPage 1 (some .boolean) [.int a1] M (fX10_isPage a1 M) := by
  refine Mt.of2 (own := RX10) (lv := [(0, .int a1)]) rfl (by decide +kernel) rfl rfl ?_
  unfold fX10_isPage
  refine s_iload_n 0 dX10_isPage_0 rfl rfl ?_
  refine s_iconst (v := 0) dX10_isPage_1 ci_0 ?_
  refine s_iconst (v := 3) dX10_isPage_2 ci_3 ?_
  refine s_call_z (s_runS (rest := []) (mX10_in l G a1 (0 : Int32) (3 : Int32) M) ok_X10_in k_X10_59 rfl rfl rfl rfl dX10_isPage_3) fun r1 M2 => ?_
  exact s_zretB rfl dX10_isPage_6
theorem dX10_its_0 : decode cX10_its 0 = .ok (.aload_n 0, 1) := by decide +kernel
theorem dX10_its_1 : decode cX10_its 1 = .ok (.getfield 7, 3) := by decide +kernel
theorem dX10_its_4 : decode cX10_its 4 = .ok (.bipush 12, 2) := by decide +kernel
theorem dX10_its_6 : decode cX10_its 6 = .ok (.bipush 7, 2) := by decide +kernel
theorem dX10_its_8 : decode cX10_its 8 = .ok (.iload_n 1, 1) := by decide +kernel
theorem dX10_its_9 : decode cX10_its 9 = .ok (.imul, 1) := by decide +kernel
theorem dX10_its_10 : decode cX10_its 10 = .ok (.iadd, 1) := by decide +kernel
theorem dX10_its_11 : decode cX10_its 11 = .ok (.iload_n 2, 1) := by decide +kernel
theorem dX10_its_12 : decode cX10_its 12 = .ok (.iadd, 1) := by decide +kernel
theorem dX10_its_13 : decode cX10_its 13 = .ok (.iaload, 1) := by decide +kernel
theorem dX10_its_14 : decode cX10_its 14 = .ok (.ireturn, 1) := by decide +kernel
def fX10_its (a1 : Int32) (a2 : Int32) (M : Mm) : Option (Int32 × Mm) :=
  gd (inb (((12 : Int32) + ((7 : Int32) * a1)) + a2) 626) <|
  some (M 1 (ix (((12 : Int32) + ((7 : Int32) * a1)) + a2)), M)
theorem mX10_its (l : Launch) (G : Gx) (a1 : Int32) (a2 : Int32) (M : Mm) : Mt cQi l layM G 1 yX10_its cX10_its 3 (some .int) [rf G 0, .int a1, .int a2] M (fX10_its a1 a2 M) := by
  refine Mt.of2 (own := RX10) (lv := [(0, rf G 0), (1, .int a1), (2, .int a2)]) rfl (by decide +kernel) rfl rfl ?_
  unfold fX10_its
  refine s_aload_n 0 dX10_its_0 rfl rfl ?_
  refine g_X10_7 (q := 1) rfl rfl dX10_its_1 ?_
  refine s_bipush (v := 12) dX10_its_4 cb_12 ?_
  refine s_bipush (v := 7) dX10_its_6 cb_7 ?_
  refine s_iload_n 1 dX10_its_8 rfl rfl ?_
  refine s_imul dX10_its_9 ?_
  refine s_iadd dX10_its_10 ?_
  refine s_iload_n 2 dX10_its_11 rfl rfl ?_
  refine s_iadd dX10_its_12 ?_
  refine s_gd fun h1 => ?_
  refine s_iald (n := 626) rfl h1 dX10_its_13 ?_
  exact s_iret rfl dX10_its_14
theorem dX10_lays1_0 : decode cX10_lays1 0 = .ok (.aload_n 0, 1) := by decide +kernel
theorem dX10_lays1_1 : decode cX10_lays1 1 = .ok (.getfield 7, 3) := by decide +kernel
theorem dX10_lays1_4 : decode cX10_lays1 4 = .ok (.bipush 12, 2) := by decide +kernel
theorem dX10_lays1_6 : decode cX10_lays1 6 = .ok (.bipush 7, 2) := by decide +kernel
theorem dX10_lays1_8 : decode cX10_lays1 8 = .ok (.iload_n 1, 1) := by decide +kernel
theorem dX10_lays1_9 : decode cX10_lays1 9 = .ok (.imul, 1) := by decide +kernel
theorem dX10_lays1_10 : decode cX10_lays1 10 = .ok (.iadd, 1) := by decide +kernel
theorem dX10_lays1_11 : decode cX10_lays1 11 = .ok (.iload_n 2, 1) := by decide +kernel
theorem dX10_lays1_12 : decode cX10_lays1 12 = .ok (.iadd, 1) := by decide +kernel
theorem dX10_lays1_13 : decode cX10_lays1 13 = .ok (.iload_n 3, 1) := by decide +kernel
theorem dX10_lays1_14 : decode cX10_lays1 14 = .ok (.iastore, 1) := by decide +kernel
theorem dX10_lays1_15 : decode cX10_lays1 15 = .ok (.return_, 1) := by decide +kernel
def fX10_lays1 (a1 : Int32) (a2 : Int32) (a3 : Int32) (M : Mm) : Option (Unit × Mm) :=
  gd (inb (((12 : Int32) + ((7 : Int32) * a1)) + a2) 626) <|
  lt (wr M 1 (ix (((12 : Int32) + ((7 : Int32) * a1)) + a2)) a3) fun M2 =>
  some ((), M2)
theorem mX10_lays1 (l : Launch) (G : Gx) (a1 : Int32) (a2 : Int32) (a3 : Int32) (M : Mm) : Mt cQv l layM G 1 yX10_lays1 cX10_lays1 4 none [rf G 0, .int a1, .int a2, .int a3] M (fX10_lays1 a1 a2 a3 M) := by
  refine Mt.of2 (own := RX10) (lv := [(0, rf G 0), (1, .int a1), (2, .int a2), (3, .int a3)]) rfl (by decide +kernel) rfl rfl ?_
  unfold fX10_lays1
  refine s_aload_n 0 dX10_lays1_0 rfl rfl ?_
  refine g_X10_7 (q := 1) rfl rfl dX10_lays1_1 ?_
  refine s_bipush (v := 12) dX10_lays1_4 cb_12 ?_
  refine s_bipush (v := 7) dX10_lays1_6 cb_7 ?_
  refine s_iload_n 1 dX10_lays1_8 rfl rfl ?_
  refine s_imul dX10_lays1_9 ?_
  refine s_iadd dX10_lays1_10 ?_
  refine s_iload_n 2 dX10_lays1_11 rfl rfl ?_
  refine s_iadd dX10_lays1_12 ?_
  refine s_iload_n 3 dX10_lays1_13 rfl rfl ?_
  refine s_gd fun h1 => ?_
  refine s_iast (n := 626) rfl h1 dX10_lays1_14 ?_
  refine s_letM fun M2 => ?_
  exact s_vret rfl dX10_lays1_15
theorem dX10_of_0 : decode cX10_of 0 = .ok (.aload_n 0, 1) := by decide +kernel
theorem dX10_of_1 : decode cX10_of 1 = .ok (.getfield 7, 3) := by decide +kernel
theorem dX10_of_4 : decode cX10_of 4 = .ok (.sipush 180, 3) := by decide +kernel
theorem dX10_of_7 : decode cX10_of 7 = .ok (.bipush 10, 2) := by decide +kernel
theorem dX10_of_9 : decode cX10_of 9 = .ok (.iload_n 1, 1) := by decide +kernel
theorem dX10_of_10 : decode cX10_of 10 = .ok (.imul, 1) := by decide +kernel
theorem dX10_of_11 : decode cX10_of 11 = .ok (.iadd, 1) := by decide +kernel
theorem dX10_of_12 : decode cX10_of 12 = .ok (.iload_n 2, 1) := by decide +kernel
theorem dX10_of_13 : decode cX10_of 13 = .ok (.iadd, 1) := by decide +kernel
theorem dX10_of_14 : decode cX10_of 14 = .ok (.iaload, 1) := by decide +kernel
theorem dX10_of_15 : decode cX10_of 15 = .ok (.ireturn, 1) := by decide +kernel
def fX10_of (a1 : Int32) (a2 : Int32) (M : Mm) : Option (Int32 × Mm) :=
  gd (inb (((180 : Int32) + ((10 : Int32) * a1)) + a2) 626) <|
  some (M 1 (ix (((180 : Int32) + ((10 : Int32) * a1)) + a2)), M)
theorem mX10_of (l : Launch) (G : Gx) (a1 : Int32) (a2 : Int32) (M : Mm) : Mt cQi l layM G 1 yX10_of cX10_of 3 (some .int) [rf G 0, .int a1, .int a2] M (fX10_of a1 a2 M) := by
  refine Mt.of2 (own := RX10) (lv := [(0, rf G 0), (1, .int a1), (2, .int a2)]) rfl (by decide +kernel) rfl rfl ?_
  unfold fX10_of
  refine s_aload_n 0 dX10_of_0 rfl rfl ?_
  refine g_X10_7 (q := 1) rfl rfl dX10_of_1 ?_
  refine s_sipush (v := 180) dX10_of_4 cs_180 ?_
  refine s_bipush (v := 10) dX10_of_7 cb_10 ?_
  refine s_iload_n 1 dX10_of_9 rfl rfl ?_
  refine s_imul dX10_of_10 ?_
  refine s_iadd dX10_of_11 ?_
  refine s_iload_n 2 dX10_of_12 rfl rfl ?_
  refine s_iadd dX10_of_13 ?_
  refine s_gd fun h1 => ?_
  refine s_iald (n := 626) rfl h1 dX10_of_14 ?_
  exact s_iret rfl dX10_of_15
theorem dX10_drips_0 : decode cX10_drips 0 = .ok (.aload_n 0, 1) := by decide +kernel
theorem dX10_drips_1 : decode cX10_drips 1 = .ok (.getfield 7, 3) := by decide +kernel
theorem dX10_drips_4 : decode cX10_drips 4 = .ok (.iconst 2, 1) := by decide +kernel
theorem dX10_drips_5 : decode cX10_drips 5 = .ok (.iaload, 1) := by decide +kernel
theorem dX10_drips_6 : decode cX10_drips 6 = .ok (.iload_n 1, 1) := by decide +kernel
theorem dX10_drips_7 : decode cX10_drips 7 = .ok (.iadd, 1) := by decide +kernel
theorem dX10_drips_8 : decode cX10_drips 8 = .ok (.istore_n 2, 1) := by decide +kernel
theorem dX10_drips_9 : decode cX10_drips 9 = .ok (.aload_n 0, 1) := by decide +kernel
theorem dX10_drips_10 : decode cX10_drips 10 = .ok (.getfield 7, 3) := by decide +kernel
theorem dX10_drips_13 : decode cX10_drips 13 = .ok (.iconst 2, 1) := by decide +kernel
theorem dX10_drips_14 : decode cX10_drips 14 = .ok (.iload_n 2, 1) := by decide +kernel
theorem dX10_drips_15 : decode cX10_drips 15 = .ok (.iconst 0, 1) := by decide +kernel
theorem dX10_drips_16 : decode cX10_drips 16 = .ok (.ldc 63, 2) := by decide +kernel
theorem dX10_drips_18 : decode cX10_drips 18 = .ok (.invokestatic 64, 3) := by decide +kernel
theorem dX10_drips_21 : decode cX10_drips 21 = .ok (.iastore, 1) := by decide +kernel
theorem dX10_drips_22 : decode cX10_drips 22 = .ok (.aload_n 0, 1) := by decide +kernel
theorem dX10_drips_23 : decode cX10_drips 23 = .ok (.getfield 7, 3) := by decide +kernel
theorem dX10_drips_26 : decode cX10_drips 26 = .ok (.iconst 4, 1) := by decide +kernel
theorem dX10_drips_27 : decode cX10_drips 27 = .ok (.dup2, 1) := by decide +kernel
theorem dX10_drips_28 : decode cX10_drips 28 = .ok (.iaload, 1) := by decide +kernel
theorem dX10_drips_29 : decode cX10_drips 29 = .ok (.iload_n 2, 1) := by decide +kernel
theorem dX10_drips_30 : decode cX10_drips 30 = .ok (.aload_n 0, 1) := by decide +kernel
theorem dX10_drips_31 : decode cX10_drips 31 = .ok (.getfield 7, 3) := by decide +kernel
theorem dX10_drips_34 : decode cX10_drips 34 = .ok (.iconst 2, 1) := by decide +kernel
theorem dX10_drips_35 : decode cX10_drips 35 = .ok (.iaload, 1) := by decide +kernel
theorem dX10_drips_36 : decode cX10_drips 36 = .ok (.isub, 1) := by decide +kernel
theorem dX10_drips_37 : decode cX10_drips 37 = .ok (.iadd, 1) := by decide +kernel
theorem dX10_drips_38 : decode cX10_drips 38 = .ok (.iastore, 1) := by decide +kernel
theorem dX10_drips_39 : decode cX10_drips 39 = .ok (.return_, 1) := by decide +kernel
def fX10_drips (a1 : Int32) (M : Mm) : Option (Unit × Mm) :=
  lt ((M 1 (ix (2 : Int32))) + a1) fun x1 =>
  bd (fX10_held x1 (0 : Int32) (99999 : Int32) M) fun r2 M3 =>
  lt (wr M3 1 (ix (2 : Int32)) r2) fun M4 =>
  lt (wr M4 1 (ix (4 : Int32)) ((M4 1 (ix (4 : Int32))) + (x1 - (M4 1 (ix (2 : Int32)))))) fun M5 =>
  some ((), M5)
theorem mX10_drips (l : Launch) (G : Gx) (a1 : Int32) (M : Mm) : Mt cQv l layM G 2 yX10_drips cX10_drips 3 none [rf G 0, .int a1] M (fX10_drips a1 M) := by
  refine Mt.of2 (own := RX10) (lv := [(0, rf G 0), (1, .int a1)]) rfl (by decide +kernel) rfl rfl ?_
  unfold fX10_drips
  refine s_aload_n 0 dX10_drips_0 rfl rfl ?_
  refine g_X10_7 (q := 1) rfl rfl dX10_drips_1 ?_
  refine s_iconst (v := 2) dX10_drips_4 ci_2 ?_
  refine s_iald (n := 626) rfl (by decide) dX10_drips_5 ?_
  refine s_iload_n 1 dX10_drips_6 rfl rfl ?_
  refine s_iadd dX10_drips_7 ?_
  refine s_leti fun x1 => ?_
  refine s_istore_n (lv' := [(2, .int x1), (0, rf G 0), (1, .int a1)]) dX10_drips_8 rfl rfl rfl ?_
  refine s_aload_n 1 dX10_drips_9 rfl rfl ?_
  refine g_X10_7 (q := 1) rfl rfl dX10_drips_10 ?_
  refine s_iconst (v := 2) dX10_drips_13 ci_2 ?_
  refine s_iload_n 0 dX10_drips_14 rfl rfl ?_
  refine s_iconst (v := 0) dX10_drips_15 ci_0 ?_
  refine s_ldc (v := 99999) dX10_drips_16 q_1215 ?_
  refine s_call_i (s_runS (rest := [.int (2 : Int32), rf G 1]) (mX10_held l G x1 (0 : Int32) (99999 : Int32) M) ok_X10_held k_X10_64 rfl rfl rfl rfl dX10_drips_18) fun r2 M3 => ?_
  refine s_iast (n := 626) rfl (by decide) dX10_drips_21 ?_
  refine s_letM fun M4 => ?_
  refine s_aload_n 1 dX10_drips_22 rfl rfl ?_
  refine g_X10_7 (q := 1) rfl rfl dX10_drips_23 ?_
  refine s_iconst (v := 4) dX10_drips_26 ci_4 ?_
  refine s_dup2 dX10_drips_27 rfl rfl ?_
  refine s_iald (n := 626) rfl (by decide) dX10_drips_28 ?_
  refine s_iload_n 0 dX10_drips_29 rfl rfl ?_
  refine s_aload_n 1 dX10_drips_30 rfl rfl ?_
  refine g_X10_7 (q := 1) rfl rfl dX10_drips_31 ?_
  refine s_iconst (v := 2) dX10_drips_34 ci_2 ?_
  refine s_iald (n := 626) rfl (by decide) dX10_drips_35 ?_
  refine s_isub dX10_drips_36 ?_
  refine s_iadd dX10_drips_37 ?_
  refine s_iast (n := 626) rfl (by decide) dX10_drips_38 ?_
  refine s_letM fun M5 => ?_
  exact s_vret rfl dX10_drips_39
theorem dX10_whyNotCast_0 : decode cX10_whyNotCast 0 = .ok (.iload_n 1, 1) := by decide +kernel
theorem dX10_whyNotCast_1 : decode cX10_whyNotCast 1 = .ok (.iconst 0, 1) := by decide +kernel
theorem dX10_whyNotCast_2 : decode cX10_whyNotCast 2 = .ok (.bipush 69, 2) := by decide +kernel
theorem dX10_whyNotCast_4 : decode cX10_whyNotCast 4 = .ok (.invokestatic 59, 3) := by decide +kernel
theorem dX10_whyNotCast_7 : decode cX10_whyNotCast 7 = .ok (.ifCond .eq 24, 3) := by decide +kernel
theorem dX10_whyNotCast_10 : decode cX10_whyNotCast 10 = .ok (.iload_n 2, 1) := by decide +kernel
theorem dX10_whyNotCast_11 : decode cX10_whyNotCast 11 = .ok (.iconst 1, 1) := by decide +kernel
theorem dX10_whyNotCast_12 : decode cX10_whyNotCast 12 = .ok (.bipush 26, 2) := by decide +kernel
theorem dX10_whyNotCast_14 : decode cX10_whyNotCast 14 = .ok (.invokestatic 59, 3) := by decide +kernel
theorem dX10_whyNotCast_17 : decode cX10_whyNotCast 17 = .ok (.ifCond .eq 14, 3) := by decide +kernel
theorem dX10_whyNotCast_20 : decode cX10_whyNotCast 20 = .ok (.iload_n 3, 1) := by decide +kernel
theorem dX10_whyNotCast_21 : decode cX10_whyNotCast 21 = .ok (.iconst 0, 1) := by decide +kernel
theorem dX10_whyNotCast_22 : decode cX10_whyNotCast 22 = .ok (.sipush 999, 3) := by decide +kernel
theorem dX10_whyNotCast_25 : decode cX10_whyNotCast 25 = .ok (.invokestatic 59, 3) := by decide +kernel
theorem dX10_whyNotCast_28 : decode cX10_whyNotCast 28 = .ok (.ifCond .ne 5, 3) := by decide +kernel
theorem dX10_whyNotCast_31 : decode cX10_whyNotCast 31 = .ok (.iconst 1, 1) := by decide +kernel
theorem dX10_whyNotCast_32 : decode cX10_whyNotCast 32 = .ok (.ireturn, 1) := by decide +kernel
theorem dX10_whyNotCast_33 : decode cX10_whyNotCast 33 = .ok (.aload_n 0, 1) := by decide +kernel
theorem dX10_whyNotCast_34 : decode cX10_whyNotCast 34 = .ok (.getfield 7, 3) := by decide +kernel
theorem dX10_whyNotCast_37 : decode cX10_whyNotCast 37 = .ok (.iconst 2, 1) := by decide +kernel
theorem dX10_whyNotCast_38 : decode cX10_whyNotCast 38 = .ok (.iaload, 1) := by decide +kernel
theorem dX10_whyNotCast_39 : decode cX10_whyNotCast 39 = .ok (.iload_n 3, 1) := by decide +kernel
theorem dX10_whyNotCast_40 : decode cX10_whyNotCast 40 = .ok (.if_icmp .ge 7, 3) := by decide +kernel
theorem dX10_whyNotCast_43 : decode cX10_whyNotCast 43 = .ok (.iconst 3, 1) := by decide +kernel
theorem dX10_whyNotCast_44 : decode cX10_whyNotCast 44 = .ok (.goto 19, 3) := by decide +kernel
theorem dX10_whyNotCast_47 : decode cX10_whyNotCast 47 = .ok (.aload_n 0, 1) := by decide +kernel
theorem dX10_whyNotCast_48 : decode cX10_whyNotCast 48 = .ok (.getfield 7, 3) := by decide +kernel
theorem dX10_whyNotCast_51 : decode cX10_whyNotCast 51 = .ok (.iconst 0, 1) := by decide +kernel
theorem dX10_whyNotCast_52 : decode cX10_whyNotCast 52 = .ok (.iaload, 1) := by decide +kernel
theorem dX10_whyNotCast_53 : decode cX10_whyNotCast 53 = .ok (.bipush 24, 2) := by decide +kernel
theorem dX10_whyNotCast_55 : decode cX10_whyNotCast 55 = .ok (.if_icmp .ne 7, 3) := by decide +kernel
theorem dX10_whyNotCast_58 : decode cX10_whyNotCast 58 = .ok (.iconst 4, 1) := by decide +kernel
theorem dX10_whyNotCast_59 : decode cX10_whyNotCast 59 = .ok (.goto 4, 3) := by decide +kernel
theorem dX10_whyNotCast_62 : decode cX10_whyNotCast 62 = .ok (.iconst 0, 1) := by decide +kernel
theorem dX10_whyNotCast_63 : decode cX10_whyNotCast 63 = .ok (.ireturn, 1) := by decide +kernel
def fX10_whyNotCast_B31 (M : Mm) : Option (Int32 × Mm) :=
  some ((1 : Int32), M)
theorem tX10_whyNotCast_B31 (l : Launch) (G : Gx) (M : Mm) : Sim cQi l layM G 2 cX10_whyNotCast RX10 4 (some .int) 31 [] [] M (fX10_whyNotCast_B31 M) := by
  unfold fX10_whyNotCast_B31
  refine s_iconst (v := 1) dX10_whyNotCast_31 ci_1 ?_
  exact s_iret rfl dX10_whyNotCast_32
def fX10_whyNotCast_B63 (w0 : Int32) (M : Mm) : Option (Int32 × Mm) :=
  some (w0, M)
theorem tX10_whyNotCast_B63 (l : Launch) (G : Gx) (w0 : Int32) (M : Mm) : Sim cQi l layM G 2 cX10_whyNotCast RX10 4 (some .int) 63 [] [.int w0] M (fX10_whyNotCast_B63 w0 M) := by
  unfold fX10_whyNotCast_B63
  exact s_iret rfl dX10_whyNotCast_63
def fX10_whyNotCast (a1 : Int32) (a2 : Int32) (a3 : Int32) (M : Mm) : Option (Int32 × Mm) :=
  bd (fX10_in a1 (0 : Int32) (69 : Int32) M) fun r1 M2 =>
  if r1 = true then (bd (fX10_in a2 (1 : Int32) (26 : Int32) M2) fun r3 M4 =>
  if r3 = true then (bd (fX10_in a3 (0 : Int32) (999 : Int32) M4) fun r5 M6 =>
  if r5 = true then (if a3 ≤ (M6 1 (ix (2 : Int32))) then (if (M6 1 (ix (0 : Int32))) = (24 : Int32) then (fX10_whyNotCast_B63 (4 : Int32) M6)
  else fX10_whyNotCast_B63 (0 : Int32) M6)
  else fX10_whyNotCast_B63 (3 : Int32) M6)
  else fX10_whyNotCast_B31 M6)
  else fX10_whyNotCast_B31 M4)
  else fX10_whyNotCast_B31 M2
theorem mX10_whyNotCast (l : Launch) (G : Gx) (a1 : Int32) (a2 : Int32) (a3 : Int32) (M : Mm) : Mt cQi l layM G 2 yX10_whyNotCast cX10_whyNotCast 4 (some .int) [rf G 0, .int a1, .int a2, .int a3] M (fX10_whyNotCast a1 a2 a3 M) := by
  refine Mt.of2 (own := RX10) (lv := [(0, rf G 0), (1, .int a1), (2, .int a2), (3, .int a3)]) rfl (by decide +kernel) rfl rfl ?_
  unfold fX10_whyNotCast
  refine s_iload_n 1 dX10_whyNotCast_0 rfl rfl ?_
  refine s_iconst (v := 0) dX10_whyNotCast_1 ci_0 ?_
  refine s_bipush (v := 69) dX10_whyNotCast_2 cb_69 ?_
  refine s_call_z (s_runS (rest := []) (mX10_in l G a1 (0 : Int32) (69 : Int32) M) ok_X10_in k_X10_59 rfl rfl rfl rfl dX10_whyNotCast_4) fun r1 M2 => ?_
  refine s_ifeqB (tgt := 31) dX10_whyNotCast_7 (by decide) ?_ ?_
  · exact s_sub [] rfl (tX10_whyNotCast_B31 l G M2)
  · refine s_iload_n 2 dX10_whyNotCast_10 rfl rfl ?_
    refine s_iconst (v := 1) dX10_whyNotCast_11 ci_1 ?_
    refine s_bipush (v := 26) dX10_whyNotCast_12 cb_26 ?_
    refine s_call_z (s_runS (rest := []) (mX10_in l G a2 (1 : Int32) (26 : Int32) M2) ok_X10_in k_X10_59 rfl rfl rfl rfl dX10_whyNotCast_14) fun r3 M4 => ?_
    refine s_ifeqB (tgt := 31) dX10_whyNotCast_17 (by decide) ?_ ?_
    · exact s_sub [] rfl (tX10_whyNotCast_B31 l G M4)
    · refine s_iload_n 3 dX10_whyNotCast_20 rfl rfl ?_
      refine s_iconst (v := 0) dX10_whyNotCast_21 ci_0 ?_
      refine s_sipush (v := 999) dX10_whyNotCast_22 cs_999 ?_
      refine s_call_z (s_runS (rest := []) (mX10_in l G a3 (0 : Int32) (999 : Int32) M4) ok_X10_in k_X10_59 rfl rfl rfl rfl dX10_whyNotCast_25) fun r5 M6 => ?_
      refine s_ifneB (tgt := 33) dX10_whyNotCast_28 (by decide) ?_ ?_
      · refine s_aload_n 0 dX10_whyNotCast_33 rfl rfl ?_
        refine g_X10_7 (q := 1) rfl rfl dX10_whyNotCast_34 ?_
        refine s_iconst (v := 2) dX10_whyNotCast_37 ci_2 ?_
        refine s_iald (n := 626) rfl (by decide) dX10_whyNotCast_38 ?_
        refine s_iload_n 3 dX10_whyNotCast_39 rfl rfl ?_
        refine s_icmpge (tgt := 47) dX10_whyNotCast_40 (by decide) ?_ ?_
        · refine s_aload_n 0 dX10_whyNotCast_47 rfl rfl ?_
          refine g_X10_7 (q := 1) rfl rfl dX10_whyNotCast_48 ?_
          refine s_iconst (v := 0) dX10_whyNotCast_51 ci_0 ?_
          refine s_iald (n := 626) rfl (by decide) dX10_whyNotCast_52 ?_
          refine s_bipush (v := 24) dX10_whyNotCast_53 cb_24 ?_
          refine s_icmpne (tgt := 62) dX10_whyNotCast_55 (by decide) ?_ ?_
          · refine s_iconst (v := 0) dX10_whyNotCast_62 ci_0 ?_
            exact s_sub [] rfl (tX10_whyNotCast_B63 l G (0 : Int32) M6)
          · refine s_iconst (v := 4) dX10_whyNotCast_58 ci_4 ?_
            refine s_goto (tgt := 63) dX10_whyNotCast_59 (by decide) ?_
            exact s_sub [] rfl (tX10_whyNotCast_B63 l G (4 : Int32) M6)
        · refine s_iconst (v := 3) dX10_whyNotCast_43 ci_3 ?_
          refine s_goto (tgt := 63) dX10_whyNotCast_44 (by decide) ?_
          exact s_sub [] rfl (tX10_whyNotCast_B63 l G (3 : Int32) M6)
      · exact s_sub [] rfl (tX10_whyNotCast_B31 l G M6)
theorem dX10_casts1_0 : decode cX10_casts1 0 = .ok (.aload_n 0, 1) := by decide +kernel
theorem dX10_casts1_1 : decode cX10_casts1 1 = .ok (.getfield 7, 3) := by decide +kernel
theorem dX10_casts1_4 : decode cX10_casts1 4 = .ok (.iconst 0, 1) := by decide +kernel
theorem dX10_casts1_5 : decode cX10_casts1 5 = .ok (.iaload, 1) := by decide +kernel
theorem dX10_casts1_6 : decode cX10_casts1 6 = .ok (.istore 4, 2) := by decide +kernel
theorem dX10_casts1_8 : decode cX10_casts1 8 = .ok (.aload_n 0, 1) := by decide +kernel
theorem dX10_casts1_9 : decode cX10_casts1 9 = .ok (.getfield 7, 3) := by decide +kernel
theorem dX10_casts1_12 : decode cX10_casts1 12 = .ok (.iconst 2, 1) := by decide +kernel
theorem dX10_casts1_13 : decode cX10_casts1 13 = .ok (.iaload, 1) := by decide +kernel
theorem dX10_casts1_14 : decode cX10_casts1 14 = .ok (.ifCond .ne 7, 3) := by decide +kernel
theorem dX10_casts1_17 : decode cX10_casts1 17 = .ok (.iconst 0, 1) := by decide +kernel
theorem dX10_casts1_18 : decode cX10_casts1 18 = .ok (.goto 22, 3) := by decide +kernel
theorem dX10_casts1_21 : decode cX10_casts1 21 = .ok (.aload_n 0, 1) := by decide +kernel
theorem dX10_casts1_22 : decode cX10_casts1 22 = .ok (.getfield 7, 3) := by decide +kernel
theorem dX10_casts1_25 : decode cX10_casts1 25 = .ok (.iconst 3, 1) := by decide +kernel
theorem dX10_casts1_26 : decode cX10_casts1 26 = .ok (.iaload, 1) := by decide +kernel
theorem dX10_casts1_27 : decode cX10_casts1 27 = .ok (.i2l, 1) := by decide +kernel
theorem dX10_casts1_28 : decode cX10_casts1 28 = .ok (.iload_n 3, 1) := by decide +kernel
theorem dX10_casts1_29 : decode cX10_casts1 29 = .ok (.i2l, 1) := by decide +kernel
theorem dX10_casts1_30 : decode cX10_casts1 30 = .ok (.lmul, 1) := by decide +kernel
theorem dX10_casts1_31 : decode cX10_casts1 31 = .ok (.aload_n 0, 1) := by decide +kernel
theorem dX10_casts1_32 : decode cX10_casts1 32 = .ok (.getfield 7, 3) := by decide +kernel
theorem dX10_casts1_35 : decode cX10_casts1 35 = .ok (.iconst 2, 1) := by decide +kernel
theorem dX10_casts1_36 : decode cX10_casts1 36 = .ok (.iaload, 1) := by decide +kernel
theorem dX10_casts1_37 : decode cX10_casts1 37 = .ok (.i2l, 1) := by decide +kernel
theorem dX10_casts1_38 : decode cX10_casts1 38 = .ok (.ldiv, 1) := by decide +kernel
theorem dX10_casts1_39 : decode cX10_casts1 39 = .ok (.l2i, 1) := by decide +kernel
theorem dX10_casts1_40 : decode cX10_casts1 40 = .ok (.istore 5, 2) := by decide +kernel
theorem dX10_casts1_42 : decode cX10_casts1 42 = .ok (.iload_n 1, 1) := by decide +kernel
theorem dX10_casts1_43 : decode cX10_casts1 43 = .ok (.bipush 10, 2) := by decide +kernel
theorem dX10_casts1_45 : decode cX10_casts1 45 = .ok (.idiv, 1) := by decide +kernel
theorem dX10_casts1_46 : decode cX10_casts1 46 = .ok (.iconst 1, 1) := by decide +kernel
theorem dX10_casts1_47 : decode cX10_casts1 47 = .ok (.if_icmp .ne 12, 3) := by decide +kernel
theorem dX10_casts1_50 : decode cX10_casts1 50 = .ok (.iload 5, 2) := by decide +kernel
theorem dX10_casts1_52 : decode cX10_casts1 52 = .ok (.ifCond .le 7, 3) := by decide +kernel
theorem dX10_casts1_55 : decode cX10_casts1 55 = .ok (.iconst 1, 1) := by decide +kernel
theorem dX10_casts1_56 : decode cX10_casts1 56 = .ok (.goto 4, 3) := by decide +kernel
theorem dX10_casts1_59 : decode cX10_casts1 59 = .ok (.iconst 0, 1) := by decide +kernel
theorem dX10_casts1_60 : decode cX10_casts1 60 = .ok (.istore 6, 2) := by decide +kernel
theorem dX10_casts1_62 : decode cX10_casts1 62 = .ok (.aload_n 0, 1) := by decide +kernel
theorem dX10_casts1_63 : decode cX10_casts1 63 = .ok (.getfield 7, 3) := by decide +kernel
theorem dX10_casts1_66 : decode cX10_casts1 66 = .ok (.iconst 2, 1) := by decide +kernel
theorem dX10_casts1_67 : decode cX10_casts1 67 = .ok (.dup2, 1) := by decide +kernel
theorem dX10_casts1_68 : decode cX10_casts1 68 = .ok (.iaload, 1) := by decide +kernel
theorem dX10_casts1_69 : decode cX10_casts1 69 = .ok (.iload_n 3, 1) := by decide +kernel
theorem dX10_casts1_70 : decode cX10_casts1 70 = .ok (.isub, 1) := by decide +kernel
theorem dX10_casts1_71 : decode cX10_casts1 71 = .ok (.iastore, 1) := by decide +kernel
theorem dX10_casts1_72 : decode cX10_casts1 72 = .ok (.aload_n 0, 1) := by decide +kernel
theorem dX10_casts1_73 : decode cX10_casts1 73 = .ok (.getfield 7, 3) := by decide +kernel
theorem dX10_casts1_76 : decode cX10_casts1 76 = .ok (.iconst 3, 1) := by decide +kernel
theorem dX10_casts1_77 : decode cX10_casts1 77 = .ok (.dup2, 1) := by decide +kernel
theorem dX10_casts1_78 : decode cX10_casts1 78 = .ok (.iaload, 1) := by decide +kernel
theorem dX10_casts1_79 : decode cX10_casts1 79 = .ok (.iload 5, 2) := by decide +kernel
theorem dX10_casts1_81 : decode cX10_casts1 81 = .ok (.isub, 1) := by decide +kernel
theorem dX10_casts1_82 : decode cX10_casts1 82 = .ok (.iastore, 1) := by decide +kernel
theorem dX10_casts1_83 : decode cX10_casts1 83 = .ok (.aload_n 0, 1) := by decide +kernel
theorem dX10_casts1_84 : decode cX10_casts1 84 = .ok (.iload 4, 2) := by decide +kernel
theorem dX10_casts1_86 : decode cX10_casts1 86 = .ok (.iconst 0, 1) := by decide +kernel
theorem dX10_casts1_87 : decode cX10_casts1 87 = .ok (.iload 6, 2) := by decide +kernel
theorem dX10_casts1_89 : decode cX10_casts1 89 = .ok (.ifCond .eq 7, 3) := by decide +kernel
theorem dX10_casts1_92 : decode cX10_casts1 92 = .ok (.iconst 3, 1) := by decide +kernel
theorem dX10_casts1_93 : decode cX10_casts1 93 = .ok (.goto 7, 3) := by decide +kernel
theorem dX10_casts1_96 : decode cX10_casts1 96 = .ok (.iload_n 1, 1) := by decide +kernel
theorem dX10_casts1_97 : decode cX10_casts1 97 = .ok (.bipush 10, 2) := by decide +kernel
theorem dX10_casts1_99 : decode cX10_casts1 99 = .ok (.idiv, 1) := by decide +kernel
theorem dX10_casts1_100 : decode cX10_casts1 100 = .ok (.invokevirtual 68, 3) := by decide +kernel
theorem dX10_casts1_103 : decode cX10_casts1 103 = .ok (.aload_n 0, 1) := by decide +kernel
theorem dX10_casts1_104 : decode cX10_casts1 104 = .ok (.iload 4, 2) := by decide +kernel
theorem dX10_casts1_106 : decode cX10_casts1 106 = .ok (.iconst 1, 1) := by decide +kernel
theorem dX10_casts1_107 : decode cX10_casts1 107 = .ok (.iload 6, 2) := by decide +kernel
theorem dX10_casts1_109 : decode cX10_casts1 109 = .ok (.ifCond .eq 14, 3) := by decide +kernel
theorem dX10_casts1_112 : decode cX10_casts1 112 = .ok (.iload 5, 2) := by decide +kernel
theorem dX10_casts1_114 : decode cX10_casts1 114 = .ok (.iconst 0, 1) := by decide +kernel
theorem dX10_casts1_115 : decode cX10_casts1 115 = .ok (.bipush 9, 2) := by decide +kernel
theorem dX10_casts1_117 : decode cX10_casts1 117 = .ok (.invokestatic 64, 3) := by decide +kernel
theorem dX10_casts1_120 : decode cX10_casts1 120 = .ok (.goto 7, 3) := by decide +kernel
theorem dX10_casts1_123 : decode cX10_casts1 123 = .ok (.iload_n 1, 1) := by decide +kernel
theorem dX10_casts1_124 : decode cX10_casts1 124 = .ok (.bipush 10, 2) := by decide +kernel
theorem dX10_casts1_126 : decode cX10_casts1 126 = .ok (.irem, 1) := by decide +kernel
theorem dX10_casts1_127 : decode cX10_casts1 127 = .ok (.invokevirtual 68, 3) := by decide +kernel
theorem dX10_casts1_130 : decode cX10_casts1 130 = .ok (.aload_n 0, 1) := by decide +kernel
theorem dX10_casts1_131 : decode cX10_casts1 131 = .ok (.iload 4, 2) := by decide +kernel
theorem dX10_casts1_133 : decode cX10_casts1 133 = .ok (.iconst 2, 1) := by decide +kernel
theorem dX10_casts1_134 : decode cX10_casts1 134 = .ok (.iload_n 2, 1) := by decide +kernel
theorem dX10_casts1_135 : decode cX10_casts1 135 = .ok (.invokevirtual 68, 3) := by decide +kernel
theorem dX10_casts1_138 : decode cX10_casts1 138 = .ok (.aload_n 0, 1) := by decide +kernel
theorem dX10_casts1_139 : decode cX10_casts1 139 = .ok (.iload 4, 2) := by decide +kernel
theorem dX10_casts1_141 : decode cX10_casts1 141 = .ok (.iconst 3, 1) := by decide +kernel
theorem dX10_casts1_142 : decode cX10_casts1 142 = .ok (.iload_n 3, 1) := by decide +kernel
theorem dX10_casts1_143 : decode cX10_casts1 143 = .ok (.invokevirtual 68, 3) := by decide +kernel
theorem dX10_casts1_146 : decode cX10_casts1 146 = .ok (.aload_n 0, 1) := by decide +kernel
theorem dX10_casts1_147 : decode cX10_casts1 147 = .ok (.iload 4, 2) := by decide +kernel
theorem dX10_casts1_149 : decode cX10_casts1 149 = .ok (.iconst 4, 1) := by decide +kernel
theorem dX10_casts1_150 : decode cX10_casts1 150 = .ok (.iconst 0, 1) := by decide +kernel
theorem dX10_casts1_151 : decode cX10_casts1 151 = .ok (.invokevirtual 68, 3) := by decide +kernel
theorem dX10_casts1_154 : decode cX10_casts1 154 = .ok (.aload_n 0, 1) := by decide +kernel
theorem dX10_casts1_155 : decode cX10_casts1 155 = .ok (.iload 4, 2) := by decide +kernel
theorem dX10_casts1_157 : decode cX10_casts1 157 = .ok (.iconst 5, 1) := by decide +kernel
theorem dX10_casts1_158 : decode cX10_casts1 158 = .ok (.iconst (-1), 1) := by decide +kernel
theorem dX10_casts1_159 : decode cX10_casts1 159 = .ok (.invokevirtual 68, 3) := by decide +kernel
theorem dX10_casts1_162 : decode cX10_casts1 162 = .ok (.aload_n 0, 1) := by decide +kernel
theorem dX10_casts1_163 : decode cX10_casts1 163 = .ok (.iload 4, 2) := by decide +kernel
theorem dX10_casts1_165 : decode cX10_casts1 165 = .ok (.bipush 6, 2) := by decide +kernel
theorem dX10_casts1_167 : decode cX10_casts1 167 = .ok (.iconst 0, 1) := by decide +kernel
theorem dX10_casts1_168 : decode cX10_casts1 168 = .ok (.invokevirtual 68, 3) := by decide +kernel
theorem dX10_casts1_171 : decode cX10_casts1 171 = .ok (.aload_n 0, 1) := by decide +kernel
theorem dX10_casts1_172 : decode cX10_casts1 172 = .ok (.getfield 7, 3) := by decide +kernel
theorem dX10_casts1_175 : decode cX10_casts1 175 = .ok (.iconst 0, 1) := by decide +kernel
theorem dX10_casts1_176 : decode cX10_casts1 176 = .ok (.dup2, 1) := by decide +kernel
theorem dX10_casts1_177 : decode cX10_casts1 177 = .ok (.iaload, 1) := by decide +kernel
theorem dX10_casts1_178 : decode cX10_casts1 178 = .ok (.iconst 1, 1) := by decide +kernel
theorem dX10_casts1_179 : decode cX10_casts1 179 = .ok (.iadd, 1) := by decide +kernel
theorem dX10_casts1_180 : decode cX10_casts1 180 = .ok (.iastore, 1) := by decide +kernel
theorem dX10_casts1_181 : decode cX10_casts1 181 = .ok (.iload 4, 2) := by decide +kernel
theorem dX10_casts1_183 : decode cX10_casts1 183 = .ok (.ireturn, 1) := by decide +kernel
def fX10_casts1_B127 (v4 : Int32) (v2 : Int32) (v3 : Int32) (w0 : Int32) (w1 : Int32) (w2 : Int32) (M : Mm) : Option (Int32 × Mm) :=
  bd (fX10_lays1 w2 w1 w0 M) fun r7 M8 =>
  bd (fX10_lays1 v4 (2 : Int32) v2 M8) fun r9 M10 =>
  bd (fX10_lays1 v4 (3 : Int32) v3 M10) fun r11 M12 =>
  bd (fX10_lays1 v4 (4 : Int32) (0 : Int32) M12) fun r13 M14 =>
  bd (fX10_lays1 v4 (5 : Int32) (-1 : Int32) M14) fun r15 M16 =>
  bd (fX10_lays1 v4 (6 : Int32) (0 : Int32) M16) fun r17 M18 =>
  lt (wr M18 1 (ix (0 : Int32)) ((M18 1 (ix (0 : Int32))) + (1 : Int32))) fun M19 =>
  some (v4, M19)
theorem tX10_casts1_B127 (l : Launch) (G : Gx) (v4 : Int32) (v2 : Int32) (v3 : Int32) (w0 : Int32) (w1 : Int32) (w2 : Int32) (M : Mm) : Sim cQi l layM G 2 cX10_casts1 RX10 7 (some .int) 127 [(4, .int v4), (0, rf G 0), (2, .int v2), (3, .int v3)] [.int w0, .int w1, .int w2, rf G 0] M (fX10_casts1_B127 v4 v2 v3 w0 w1 w2 M) := by
  unfold fX10_casts1_B127
  refine s_call_v (s_runV (ci := 10) (rest := []) rfl rfl (mX10_lays1 l G w2 w1 w0 M) ok_X10_lays1 k_X10_68 rfl rfl rfl rfl dX10_casts1_127) fun r7 M8 => ?_
  refine s_aload_n 1 dX10_casts1_130 rfl rfl ?_
  refine s_iload 0 dX10_casts1_131 rfl ?_
  refine s_iconst (v := 2) dX10_casts1_133 ci_2 ?_
  refine s_iload_n 2 dX10_casts1_134 rfl rfl ?_
  refine s_call_v (s_runV (ci := 10) (rest := []) rfl rfl (mX10_lays1 l G v4 (2 : Int32) v2 M8) ok_X10_lays1 k_X10_68 rfl rfl rfl rfl dX10_casts1_135) fun r9 M10 => ?_
  refine s_aload_n 1 dX10_casts1_138 rfl rfl ?_
  refine s_iload 0 dX10_casts1_139 rfl ?_
  refine s_iconst (v := 3) dX10_casts1_141 ci_3 ?_
  refine s_iload_n 3 dX10_casts1_142 rfl rfl ?_
  refine s_call_v (s_runV (ci := 10) (rest := []) rfl rfl (mX10_lays1 l G v4 (3 : Int32) v3 M10) ok_X10_lays1 k_X10_68 rfl rfl rfl rfl dX10_casts1_143) fun r11 M12 => ?_
  refine s_aload_n 1 dX10_casts1_146 rfl rfl ?_
  refine s_iload 0 dX10_casts1_147 rfl ?_
  refine s_iconst (v := 4) dX10_casts1_149 ci_4 ?_
  refine s_iconst (v := 0) dX10_casts1_150 ci_0 ?_
  refine s_call_v (s_runV (ci := 10) (rest := []) rfl rfl (mX10_lays1 l G v4 (4 : Int32) (0 : Int32) M12) ok_X10_lays1 k_X10_68 rfl rfl rfl rfl dX10_casts1_151) fun r13 M14 => ?_
  refine s_aload_n 1 dX10_casts1_154 rfl rfl ?_
  refine s_iload 0 dX10_casts1_155 rfl ?_
  refine s_iconst (v := 5) dX10_casts1_157 ci_5 ?_
  refine s_iconst (v := -1) dX10_casts1_158 ci_m1 ?_
  refine s_call_v (s_runV (ci := 10) (rest := []) rfl rfl (mX10_lays1 l G v4 (5 : Int32) (-1 : Int32) M14) ok_X10_lays1 k_X10_68 rfl rfl rfl rfl dX10_casts1_159) fun r15 M16 => ?_
  refine s_aload_n 1 dX10_casts1_162 rfl rfl ?_
  refine s_iload 0 dX10_casts1_163 rfl ?_
  refine s_bipush (v := 6) dX10_casts1_165 cb_6 ?_
  refine s_iconst (v := 0) dX10_casts1_167 ci_0 ?_
  refine s_call_v (s_runV (ci := 10) (rest := []) rfl rfl (mX10_lays1 l G v4 (6 : Int32) (0 : Int32) M16) ok_X10_lays1 k_X10_68 rfl rfl rfl rfl dX10_casts1_168) fun r17 M18 => ?_
  refine s_aload_n 1 dX10_casts1_171 rfl rfl ?_
  refine g_X10_7 (q := 1) rfl rfl dX10_casts1_172 ?_
  refine s_iconst (v := 0) dX10_casts1_175 ci_0 ?_
  refine s_dup2 dX10_casts1_176 rfl rfl ?_
  refine s_iald (n := 626) rfl (by decide) dX10_casts1_177 ?_
  refine s_iconst (v := 1) dX10_casts1_178 ci_1 ?_
  refine s_iadd dX10_casts1_179 ?_
  refine s_iast (n := 626) rfl (by decide) dX10_casts1_180 ?_
  refine s_letM fun M19 => ?_
  refine s_iload 0 dX10_casts1_181 rfl ?_
  exact s_iret rfl dX10_casts1_183
def fX10_casts1_B100 (v6 : Int32) (v5 : Int32) (v4 : Int32) (v1 : Int32) (v2 : Int32) (v3 : Int32) (w0 : Int32) (w1 : Int32) (w2 : Int32) (M : Mm) : Option (Int32 × Mm) :=
  bd (fX10_lays1 w2 w1 w0 M) fun r5 M6 =>
  if v6 = 0 then (fX10_casts1_B127 v4 v2 v3 (v1 - v1 / (10 : Int32) * (10 : Int32)) (1 : Int32) v4 M6)
  else bd (fX10_held v5 (0 : Int32) (9 : Int32) M6) fun r20 M21 =>
  fX10_casts1_B127 v4 v2 v3 r20 (1 : Int32) v4 M21
theorem tX10_casts1_B100 (l : Launch) (G : Gx) (v6 : Int32) (v5 : Int32) (v4 : Int32) (v1 : Int32) (v2 : Int32) (v3 : Int32) (w0 : Int32) (w1 : Int32) (w2 : Int32) (M : Mm) : Sim cQi l layM G 2 cX10_casts1 RX10 7 (some .int) 100 [(6, .int v6), (5, .int v5), (4, .int v4), (0, rf G 0), (1, .int v1), (2, .int v2), (3, .int v3)] [.int w0, .int w1, .int w2, rf G 0] M (fX10_casts1_B100 v6 v5 v4 v1 v2 v3 w0 w1 w2 M) := by
  unfold fX10_casts1_B100
  refine s_call_v (s_runV (ci := 10) (rest := []) rfl rfl (mX10_lays1 l G w2 w1 w0 M) ok_X10_lays1 k_X10_68 rfl rfl rfl rfl dX10_casts1_100) fun r5 M6 => ?_
  refine s_aload_n 3 dX10_casts1_103 rfl rfl ?_
  refine s_iload 2 dX10_casts1_104 rfl ?_
  refine s_iconst (v := 1) dX10_casts1_106 ci_1 ?_
  refine s_iload 0 dX10_casts1_107 rfl ?_
  refine s_ifeq (tgt := 123) dX10_casts1_109 (by decide) ?_ ?_
  · refine s_iload_n 4 dX10_casts1_123 rfl rfl ?_
    refine s_bipush (v := 10) dX10_casts1_124 cb_10 ?_
    refine s_irem dX10_casts1_126 (by decide) ?_
    exact s_sub [2, 3, 5, 6] rfl (tX10_casts1_B127 l G v4 v2 v3 (v1 - v1 / (10 : Int32) * (10 : Int32)) (1 : Int32) v4 M6)
  · refine s_iload 1 dX10_casts1_112 rfl ?_
    refine s_iconst (v := 0) dX10_casts1_114 ci_0 ?_
    refine s_bipush (v := 9) dX10_casts1_115 cb_9 ?_
    refine s_call_i (s_runS (rest := [.int (1 : Int32), .int v4, rf G 0]) (mX10_held l G v5 (0 : Int32) (9 : Int32) M6) ok_X10_held k_X10_64 rfl rfl rfl rfl dX10_casts1_117) fun r20 M21 => ?_
    refine s_goto (tgt := 127) dX10_casts1_120 (by decide) ?_
    exact s_sub [2, 3, 5, 6] rfl (tX10_casts1_B127 l G v4 v2 v3 r20 (1 : Int32) v4 M21)
def fX10_casts1_B60 (v5 : Int32) (v4 : Int32) (v1 : Int32) (v2 : Int32) (v3 : Int32) (w0 : Int32) (M : Mm) : Option (Int32 × Mm) :=
  lt (wr M 1 (ix (2 : Int32)) ((M 1 (ix (2 : Int32))) - v3)) fun M3 =>
  lt (wr M3 1 (ix (3 : Int32)) ((M3 1 (ix (3 : Int32))) - v5)) fun M4 =>
  if w0 = 0 then (fX10_casts1_B100 w0 v5 v4 v1 v2 v3 (v1 / (10 : Int32)) (0 : Int32) v4 M4)
  else fX10_casts1_B100 w0 v5 v4 v1 v2 v3 (3 : Int32) (0 : Int32) v4 M4
theorem tX10_casts1_B60 (l : Launch) (G : Gx) (v5 : Int32) (v4 : Int32) (v1 : Int32) (v2 : Int32) (v3 : Int32) (w0 : Int32) (M : Mm) : Sim cQi l layM G 2 cX10_casts1 RX10 7 (some .int) 60 [(5, .int v5), (4, .int v4), (0, rf G 0), (1, .int v1), (2, .int v2), (3, .int v3)] [.int w0] M (fX10_casts1_B60 v5 v4 v1 v2 v3 w0 M) := by
  unfold fX10_casts1_B60
  refine s_istore (lv' := [(6, .int w0), (5, .int v5), (4, .int v4), (0, rf G 0), (1, .int v1), (2, .int v2), (3, .int v3)]) dX10_casts1_60 rfl rfl ?_
  refine s_aload_n 3 dX10_casts1_62 rfl rfl ?_
  refine g_X10_7 (q := 1) rfl rfl dX10_casts1_63 ?_
  refine s_iconst (v := 2) dX10_casts1_66 ci_2 ?_
  refine s_dup2 dX10_casts1_67 rfl rfl ?_
  refine s_iald (n := 626) rfl (by decide) dX10_casts1_68 ?_
  refine s_iload_n 6 dX10_casts1_69 rfl rfl ?_
  refine s_isub dX10_casts1_70 ?_
  refine s_iast (n := 626) rfl (by decide) dX10_casts1_71 ?_
  refine s_letM fun M3 => ?_
  refine s_aload_n 3 dX10_casts1_72 rfl rfl ?_
  refine g_X10_7 (q := 1) rfl rfl dX10_casts1_73 ?_
  refine s_iconst (v := 3) dX10_casts1_76 ci_3 ?_
  refine s_dup2 dX10_casts1_77 rfl rfl ?_
  refine s_iald (n := 626) rfl (by decide) dX10_casts1_78 ?_
  refine s_iload 1 dX10_casts1_79 rfl ?_
  refine s_isub dX10_casts1_81 ?_
  refine s_iast (n := 626) rfl (by decide) dX10_casts1_82 ?_
  refine s_letM fun M4 => ?_
  refine s_aload_n 3 dX10_casts1_83 rfl rfl ?_
  refine s_iload 2 dX10_casts1_84 rfl ?_
  refine s_iconst (v := 0) dX10_casts1_86 ci_0 ?_
  refine s_iload 0 dX10_casts1_87 rfl ?_
  refine s_ifeq (tgt := 96) dX10_casts1_89 (by decide) ?_ ?_
  · refine s_iload_n 4 dX10_casts1_96 rfl rfl ?_
    refine s_bipush (v := 10) dX10_casts1_97 cb_10 ?_
    refine s_idiv dX10_casts1_99 (by decide) ?_
    exact s_sub [0, 1, 2, 3, 4, 5, 6] rfl (tX10_casts1_B100 l G w0 v5 v4 v1 v2 v3 (v1 / (10 : Int32)) (0 : Int32) v4 M4)
  · refine s_iconst (v := 3) dX10_casts1_92 ci_3 ?_
    refine s_goto (tgt := 100) dX10_casts1_93 (by decide) ?_
    exact s_sub [0, 1, 2, 3, 4, 5, 6] rfl (tX10_casts1_B100 l G w0 v5 v4 v1 v2 v3 (3 : Int32) (0 : Int32) v4 M4)
def fX10_casts1_B59 (v5 : Int32) (v4 : Int32) (v1 : Int32) (v2 : Int32) (v3 : Int32) (M : Mm) : Option (Int32 × Mm) :=
  fX10_casts1_B60 v5 v4 v1 v2 v3 (0 : Int32) M
theorem tX10_casts1_B59 (l : Launch) (G : Gx) (v5 : Int32) (v4 : Int32) (v1 : Int32) (v2 : Int32) (v3 : Int32) (M : Mm) : Sim cQi l layM G 2 cX10_casts1 RX10 7 (some .int) 59 [(5, .int v5), (4, .int v4), (0, rf G 0), (1, .int v1), (2, .int v2), (3, .int v3)] [] M (fX10_casts1_B59 v5 v4 v1 v2 v3 M) := by
  unfold fX10_casts1_B59
  refine s_iconst (v := 0) dX10_casts1_59 ci_0 ?_
  exact s_sub [0, 1, 2, 3, 4, 5] rfl (tX10_casts1_B60 l G v5 v4 v1 v2 v3 (0 : Int32) M)
def fX10_casts1_B40 (v4 : Int32) (v1 : Int32) (v2 : Int32) (v3 : Int32) (w0 : Int32) (M : Mm) : Option (Int32 × Mm) :=
  if (v1 / (10 : Int32)) = (1 : Int32) then (if w0 ≤ 0 then (fX10_casts1_B59 w0 v4 v1 v2 v3 M)
  else fX10_casts1_B60 w0 v4 v1 v2 v3 (1 : Int32) M)
  else fX10_casts1_B59 w0 v4 v1 v2 v3 M
theorem tX10_casts1_B40 (l : Launch) (G : Gx) (v4 : Int32) (v1 : Int32) (v2 : Int32) (v3 : Int32) (w0 : Int32) (M : Mm) : Sim cQi l layM G 2 cX10_casts1 RX10 7 (some .int) 40 [(4, .int v4), (0, rf G 0), (1, .int v1), (2, .int v2), (3, .int v3)] [.int w0] M (fX10_casts1_B40 v4 v1 v2 v3 w0 M) := by
  unfold fX10_casts1_B40
  refine s_istore (lv' := [(5, .int w0), (4, .int v4), (0, rf G 0), (1, .int v1), (2, .int v2), (3, .int v3)]) dX10_casts1_40 rfl rfl ?_
  refine s_iload_n 3 dX10_casts1_42 rfl rfl ?_
  refine s_bipush (v := 10) dX10_casts1_43 cb_10 ?_
  refine s_idiv dX10_casts1_45 (by decide) ?_
  refine s_iconst (v := 1) dX10_casts1_46 ci_1 ?_
  refine s_icmpne (tgt := 59) dX10_casts1_47 (by decide) ?_ ?_
  · exact s_sub [0, 1, 2, 3, 4, 5] rfl (tX10_casts1_B59 l G w0 v4 v1 v2 v3 M)
  · refine s_iload 0 dX10_casts1_50 rfl ?_
    refine s_ifle (tgt := 59) dX10_casts1_52 (by decide) ?_ ?_
    · exact s_sub [0, 1, 2, 3, 4, 5] rfl (tX10_casts1_B59 l G w0 v4 v1 v2 v3 M)
    · refine s_iconst (v := 1) dX10_casts1_55 ci_1 ?_
      refine s_goto (tgt := 60) dX10_casts1_56 (by decide) ?_
      exact s_sub [0, 1, 2, 3, 4, 5] rfl (tX10_casts1_B60 l G w0 v4 v1 v2 v3 (1 : Int32) M)
def fX10_casts1 (a1 : Int32) (a2 : Int32) (a3 : Int32) (M : Mm) : Option (Int32 × Mm) :=
  lt (M 1 (ix (0 : Int32))) fun x1 =>
  if (M 1 (ix (2 : Int32))) = 0 then (fX10_casts1_B40 x1 a1 a2 a3 (0 : Int32) M)
  else gd (!(decide (((M 1 (ix (2 : Int32))).toInt64) = 0))) <|
  fX10_casts1_B40 x1 a1 a2 a3 (((((M 1 (ix (3 : Int32))).toInt64) * (a3.toInt64)) / ((M 1 (ix (2 : Int32))).toInt64)).toInt32) M
theorem mX10_casts1 (l : Launch) (G : Gx) (a1 : Int32) (a2 : Int32) (a3 : Int32) (M : Mm) : Mt cQi l layM G 2 yX10_casts1 cX10_casts1 7 (some .int) [rf G 0, .int a1, .int a2, .int a3] M (fX10_casts1 a1 a2 a3 M) := by
  refine Mt.of2 (own := RX10) (lv := [(0, rf G 0), (1, .int a1), (2, .int a2), (3, .int a3)]) rfl (by decide +kernel) rfl rfl ?_
  unfold fX10_casts1
  refine s_aload_n 0 dX10_casts1_0 rfl rfl ?_
  refine g_X10_7 (q := 1) rfl rfl dX10_casts1_1 ?_
  refine s_iconst (v := 0) dX10_casts1_4 ci_0 ?_
  refine s_iald (n := 626) rfl (by decide) dX10_casts1_5 ?_
  refine s_leti fun x1 => ?_
  refine s_istore (lv' := [(4, .int x1), (0, rf G 0), (1, .int a1), (2, .int a2), (3, .int a3)]) dX10_casts1_6 rfl rfl ?_
  refine s_aload_n 1 dX10_casts1_8 rfl rfl ?_
  refine g_X10_7 (q := 1) rfl rfl dX10_casts1_9 ?_
  refine s_iconst (v := 2) dX10_casts1_12 ci_2 ?_
  refine s_iald (n := 626) rfl (by decide) dX10_casts1_13 ?_
  refine s_ifne (tgt := 21) dX10_casts1_14 (by decide) ?_ ?_
  · refine s_aload_n 1 dX10_casts1_21 rfl rfl ?_
    refine g_X10_7 (q := 1) rfl rfl dX10_casts1_22 ?_
    refine s_iconst (v := 3) dX10_casts1_25 ci_3 ?_
    refine s_iald (n := 626) rfl (by decide) dX10_casts1_26 ?_
    refine s_i2l dX10_casts1_27 ?_
    refine s_iload_n 4 dX10_casts1_28 rfl rfl ?_
    refine s_i2l dX10_casts1_29 ?_
    refine s_lmul dX10_casts1_30 ?_
    refine s_aload_n 1 dX10_casts1_31 rfl rfl ?_
    refine g_X10_7 (q := 1) rfl rfl dX10_casts1_32 ?_
    refine s_iconst (v := 2) dX10_casts1_35 ci_2 ?_
    refine s_iald (n := 626) rfl (by decide) dX10_casts1_36 ?_
    refine s_i2l dX10_casts1_37 ?_
    refine s_gd fun h2 => ?_
    refine s_ldiv dX10_casts1_38 h2 ?_
    refine s_l2i dX10_casts1_39 ?_
    exact s_sub [0, 1, 2, 3, 4] rfl (tX10_casts1_B40 l G x1 a1 a2 a3 (((((M 1 (ix (3 : Int32))).toInt64) * (a3.toInt64)) / ((M 1 (ix (2 : Int32))).toInt64)).toInt32) M)
  · refine s_iconst (v := 0) dX10_casts1_17 ci_0 ?_
    refine s_goto (tgt := 40) dX10_casts1_18 (by decide) ?_
    exact s_sub [0, 1, 2, 3, 4] rfl (tX10_casts1_B40 l G x1 a1 a2 a3 (0 : Int32) M)
theorem dX10_cast_0 : decode cX10_cast 0 = .ok (.aload_n 0, 1) := by decide +kernel
theorem dX10_cast_1 : decode cX10_cast 1 = .ok (.iload_n 1, 1) := by decide +kernel
theorem dX10_cast_2 : decode cX10_cast 2 = .ok (.iload_n 2, 1) := by decide +kernel
theorem dX10_cast_3 : decode cX10_cast 3 = .ok (.iload_n 3, 1) := by decide +kernel
theorem dX10_cast_4 : decode cX10_cast 4 = .ok (.invokevirtual 72, 3) := by decide +kernel
theorem dX10_cast_7 : decode cX10_cast 7 = .ok (.istore 4, 2) := by decide +kernel
theorem dX10_cast_9 : decode cX10_cast 9 = .ok (.iload 4, 2) := by decide +kernel
theorem dX10_cast_11 : decode cX10_cast 11 = .ok (.ifCond .le 12, 3) := by decide +kernel
theorem dX10_cast_14 : decode cX10_cast 14 = .ok (.aload_n 0, 1) := by decide +kernel
theorem dX10_cast_15 : decode cX10_cast 15 = .ok (.iload 4, 2) := by decide +kernel
theorem dX10_cast_17 : decode cX10_cast 17 = .ok (.invokevirtual 75, 3) := by decide +kernel
theorem dX10_cast_20 : decode cX10_cast 20 = .ok (.goto 10, 3) := by decide +kernel
theorem dX10_cast_23 : decode cX10_cast 23 = .ok (.aload_n 0, 1) := by decide +kernel
theorem dX10_cast_24 : decode cX10_cast 24 = .ok (.iload_n 1, 1) := by decide +kernel
theorem dX10_cast_25 : decode cX10_cast 25 = .ok (.iload_n 2, 1) := by decide +kernel
theorem dX10_cast_26 : decode cX10_cast 26 = .ok (.iload_n 3, 1) := by decide +kernel
theorem dX10_cast_27 : decode cX10_cast 27 = .ok (.invokevirtual 79, 3) := by decide +kernel
theorem dX10_cast_30 : decode cX10_cast 30 = .ok (.ireturn, 1) := by decide +kernel
def fX10_cast_B30 (w0 : Int32) (M : Mm) : Option (Int32 × Mm) :=
  some (w0, M)
theorem tX10_cast_B30 (l : Launch) (G : Gx) (w0 : Int32) (M : Mm) : Sim cQi l layM G 3 cX10_cast RX10 5 (some .int) 30 [] [.int w0] M (fX10_cast_B30 w0 M) := by
  unfold fX10_cast_B30
  exact s_iret rfl dX10_cast_30
def fX10_cast (a1 : Int32) (a2 : Int32) (a3 : Int32) (M : Mm) : Option (Int32 × Mm) :=
  bd (fX10_whyNotCast a1 a2 a3 M) fun r1 M2 =>
  if r1 ≤ 0 then (bd (fX10_casts1 a1 a2 a3 M2) fun r3 M4 =>
  fX10_cast_B30 r3 M4)
  else bd (fX10_error r1 M2) fun r5 M6 =>
  fX10_cast_B30 r5 M6
theorem mX10_cast (l : Launch) (G : Gx) (a1 : Int32) (a2 : Int32) (a3 : Int32) (M : Mm) : Mt cQi l layM G 3 yX10_cast cX10_cast 5 (some .int) [rf G 0, .int a1, .int a2, .int a3] M (fX10_cast a1 a2 a3 M) := by
  refine Mt.of2 (own := RX10) (lv := [(0, rf G 0), (1, .int a1), (2, .int a2), (3, .int a3)]) rfl (by decide +kernel) rfl rfl ?_
  unfold fX10_cast
  refine s_aload_n 0 dX10_cast_0 rfl rfl ?_
  refine s_iload_n 1 dX10_cast_1 rfl rfl ?_
  refine s_iload_n 2 dX10_cast_2 rfl rfl ?_
  refine s_iload_n 3 dX10_cast_3 rfl rfl ?_
  refine s_call_i (s_runV (ci := 10) (rest := []) rfl rfl (mX10_whyNotCast l G a1 a2 a3 M) ok_X10_whyNotCast k_X10_72 rfl rfl rfl rfl dX10_cast_4) fun r1 M2 => ?_
  refine s_istore (lv' := [(4, .int r1), (0, rf G 0), (1, .int a1), (2, .int a2), (3, .int a3)]) dX10_cast_7 rfl rfl ?_
  refine s_iload 0 dX10_cast_9 rfl ?_
  refine s_ifle (tgt := 23) dX10_cast_11 (by decide) ?_ ?_
  · refine s_aload_n 1 dX10_cast_23 rfl rfl ?_
    refine s_iload_n 2 dX10_cast_24 rfl rfl ?_
    refine s_iload_n 3 dX10_cast_25 rfl rfl ?_
    refine s_iload_n 4 dX10_cast_26 rfl rfl ?_
    refine s_call_i (s_runV (ci := 10) (rest := []) rfl rfl (mX10_casts1 l G a1 a2 a3 M2) ok_X10_casts1 k_X10_79 rfl rfl rfl rfl dX10_cast_27) fun r3 M4 => ?_
    exact s_sub [] rfl (tX10_cast_B30 l G r3 M4)
  · refine s_aload_n 1 dX10_cast_14 rfl rfl ?_
    refine s_iload 0 dX10_cast_15 rfl ?_
    refine s_call_i (s_runV (ci := 10) (rest := []) rfl rfl (mX10_error l G r1 M2) ok_X10_error k_X10_75 rfl rfl rfl rfl dX10_cast_17) fun r5 M6 => ?_
    refine s_goto (tgt := 30) dX10_cast_20 (by decide) ?_
    exact s_sub [] rfl (tX10_cast_B30 l G r5 M6)
theorem dX10_feed_0 : decode cX10_feed 0 = .ok (.iload_n 3, 1) := by decide +kernel
theorem dX10_feed_1 : decode cX10_feed 1 = .ok (.iconst 1, 1) := by decide +kernel
theorem dX10_feed_2 : decode cX10_feed 2 = .ok (.bipush 8, 2) := by decide +kernel
theorem dX10_feed_4 : decode cX10_feed 4 = .ok (.invokestatic 59, 3) := by decide +kernel
theorem dX10_feed_7 : decode cX10_feed 7 = .ok (.ifCond .ne 9, 3) := by decide +kernel
theorem dX10_feed_10 : decode cX10_feed 10 = .ok (.aload_n 0, 1) := by decide +kernel
theorem dX10_feed_11 : decode cX10_feed 11 = .ok (.iconst 1, 1) := by decide +kernel
theorem dX10_feed_12 : decode cX10_feed 12 = .ok (.invokevirtual 75, 3) := by decide +kernel
theorem dX10_feed_15 : decode cX10_feed 15 = .ok (.ireturn, 1) := by decide +kernel
theorem dX10_feed_16 : decode cX10_feed 16 = .ok (.aload_n 0, 1) := by decide +kernel
theorem dX10_feed_17 : decode cX10_feed 17 = .ok (.getfield 7, 3) := by decide +kernel
theorem dX10_feed_20 : decode cX10_feed 20 = .ok (.iconst 5, 1) := by decide +kernel
theorem dX10_feed_21 : decode cX10_feed 21 = .ok (.iaload, 1) := by decide +kernel
theorem dX10_feed_22 : decode cX10_feed 22 = .ok (.iload_n 3, 1) := by decide +kernel
theorem dX10_feed_23 : decode cX10_feed 23 = .ok (.iadd, 1) := by decide +kernel
theorem dX10_feed_24 : decode cX10_feed 24 = .ok (.bipush 60, 2) := by decide +kernel
theorem dX10_feed_26 : decode cX10_feed 26 = .ok (.if_icmp .le 9, 3) := by decide +kernel
theorem dX10_feed_29 : decode cX10_feed 29 = .ok (.aload_n 0, 1) := by decide +kernel
theorem dX10_feed_30 : decode cX10_feed 30 = .ok (.iconst 4, 1) := by decide +kernel
theorem dX10_feed_31 : decode cX10_feed 31 = .ok (.invokevirtual 75, 3) := by decide +kernel
theorem dX10_feed_34 : decode cX10_feed 34 = .ok (.ireturn, 1) := by decide +kernel
theorem dX10_feed_35 : decode cX10_feed 35 = .ok (.iconst 0, 1) := by decide +kernel
theorem dX10_feed_36 : decode cX10_feed 36 = .ok (.istore 4, 2) := by decide +kernel
theorem dX10_feed_38 : decode cX10_feed 38 = .ok (.iload 4, 2) := by decide +kernel
theorem dX10_feed_40 : decode cX10_feed 40 = .ok (.iload_n 3, 1) := by decide +kernel
theorem dX10_feed_41 : decode cX10_feed 41 = .ok (.if_icmp .ge 46, 3) := by decide +kernel
theorem dX10_feed_44 : decode cX10_feed 44 = .ok (.aload_n 0, 1) := by decide +kernel
theorem dX10_feed_45 : decode cX10_feed 45 = .ok (.getfield 7, 3) := by decide +kernel
theorem dX10_feed_48 : decode cX10_feed 48 = .ok (.sipush 542, 3) := by decide +kernel
theorem dX10_feed_51 : decode cX10_feed 51 = .ok (.aload_n 0, 1) := by decide +kernel
theorem dX10_feed_52 : decode cX10_feed 52 = .ok (.getfield 7, 3) := by decide +kernel
theorem dX10_feed_55 : decode cX10_feed 55 = .ok (.iconst 5, 1) := by decide +kernel
theorem dX10_feed_56 : decode cX10_feed 56 = .ok (.iaload, 1) := by decide +kernel
theorem dX10_feed_57 : decode cX10_feed 57 = .ok (.iadd, 1) := by decide +kernel
theorem dX10_feed_58 : decode cX10_feed 58 = .ok (.lload_n 1, 1) := by decide +kernel
theorem dX10_feed_59 : decode cX10_feed 59 = .ok (.bipush 8, 2) := by decide +kernel
theorem dX10_feed_61 : decode cX10_feed 61 = .ok (.iload 4, 2) := by decide +kernel
theorem dX10_feed_63 : decode cX10_feed 63 = .ok (.imul, 1) := by decide +kernel
theorem dX10_feed_64 : decode cX10_feed 64 = .ok (.lshr, 1) := by decide +kernel
theorem dX10_feed_65 : decode cX10_feed 65 = .ok (.ldc2_w 82, 3) := by decide +kernel
theorem dX10_feed_68 : decode cX10_feed 68 = .ok (.land, 1) := by decide +kernel
theorem dX10_feed_69 : decode cX10_feed 69 = .ok (.l2i, 1) := by decide +kernel
theorem dX10_feed_70 : decode cX10_feed 70 = .ok (.iastore, 1) := by decide +kernel
theorem dX10_feed_71 : decode cX10_feed 71 = .ok (.aload_n 0, 1) := by decide +kernel
theorem dX10_feed_72 : decode cX10_feed 72 = .ok (.getfield 7, 3) := by decide +kernel
theorem dX10_feed_75 : decode cX10_feed 75 = .ok (.iconst 5, 1) := by decide +kernel
theorem dX10_feed_76 : decode cX10_feed 76 = .ok (.dup2, 1) := by decide +kernel
theorem dX10_feed_77 : decode cX10_feed 77 = .ok (.iaload, 1) := by decide +kernel
theorem dX10_feed_78 : decode cX10_feed 78 = .ok (.iconst 1, 1) := by decide +kernel
theorem dX10_feed_79 : decode cX10_feed 79 = .ok (.iadd, 1) := by decide +kernel
theorem dX10_feed_80 : decode cX10_feed 80 = .ok (.iastore, 1) := by decide +kernel
theorem dX10_feed_81 : decode cX10_feed 81 = .ok (.iinc 4 1, 3) := by decide +kernel
theorem dX10_feed_84 : decode cX10_feed 84 = .ok (.goto (-46), 3) := by decide +kernel
theorem dX10_feed_87 : decode cX10_feed 87 = .ok (.aload_n 0, 1) := by decide +kernel
theorem dX10_feed_88 : decode cX10_feed 88 = .ok (.getfield 7, 3) := by decide +kernel
theorem dX10_feed_91 : decode cX10_feed 91 = .ok (.iconst 5, 1) := by decide +kernel
theorem dX10_feed_92 : decode cX10_feed 92 = .ok (.iaload, 1) := by decide +kernel
theorem dX10_feed_93 : decode cX10_feed 93 = .ok (.ireturn, 1) := by decide +kernel
def fX10_feed_B87 (M : Mm) : Option (Int32 × Mm) :=
  some (M 1 (ix (5 : Int32)), M)
theorem tX10_feed_B87 (l : Launch) (G : Gx) (M : Mm) : Sim cQi l layM G 2 cX10_feed RX10 5 (some .int) 87 [(0, rf G 0)] [] M (fX10_feed_B87 M) := by
  unfold fX10_feed_B87
  refine s_aload_n 0 dX10_feed_87 rfl rfl ?_
  refine g_X10_7 (q := 1) rfl rfl dX10_feed_88 ?_
  refine s_iconst (v := 5) dX10_feed_91 ci_5 ?_
  refine s_iald (n := 626) rfl (by decide) dX10_feed_92 ?_
  exact s_iret rfl dX10_feed_93
def fX10_feed_L38b (v1 : Int64) (v3 : Int32) (q38 : Int32 → Mm → Option (Int32 × Mm)) (v4 : Int32) (M : Mm) : Option (Int32 × Mm) :=
  if v3 ≤ v4 then (fX10_feed_B87 M)
  else gd (inb ((542 : Int32) + (M 1 (ix (5 : Int32)))) 626) <|
  lt (wr M 1 (ix ((542 : Int32) + (M 1 (ix (5 : Int32))))) (((v1 >>> (((8 : Int32) * v4).toInt64 &&& 63)) &&& (255 : Int64)).toInt32)) fun M6 =>
  lt (wr M6 1 (ix (5 : Int32)) ((M6 1 (ix (5 : Int32))) + (1 : Int32))) fun M7 =>
  q38 (v4 + 1) M7
def fX10_feed_L38 (v1 : Int64) (v3 : Int32) : Nat → Int32 → Mm → Option (Int32 × Mm)
  | 0 => fun _ _ => none
  | n + 1 => fX10_feed_L38b v1 v3 (fX10_feed_L38 v1 v3 n)
theorem tX10_feed_L38b (l : Launch) (G : Gx) (v1 : Int64) (v3 : Int32) (q38 : Int32 → Mm → Option (Int32 × Mm)) (hq38 : ∀ (v4 : Int32) (M : Mm), Sim cQi l layM G 2 cX10_feed RX10 5 (some .int) 38 [(4, .int v4), (0, rf G 0), (1, .long v1), (3, .int v3)] [] M (q38 v4 M)) (v4 : Int32) (M : Mm) : Sim cQi l layM G 2 cX10_feed RX10 5 (some .int) 38 [(4, .int v4), (0, rf G 0), (1, .long v1), (3, .int v3)] [] M (fX10_feed_L38b v1 v3 q38 v4 M) := by
  unfold fX10_feed_L38b
  refine s_iload 0 dX10_feed_38 rfl ?_
  refine s_iload_n 3 dX10_feed_40 rfl rfl ?_
  refine s_icmpge (tgt := 87) dX10_feed_41 (by decide) ?_ ?_
  · exact s_sub [1] rfl (tX10_feed_B87 l G M)
  · refine s_aload_n 1 dX10_feed_44 rfl rfl ?_
    refine g_X10_7 (q := 1) rfl rfl dX10_feed_45 ?_
    refine s_sipush (v := 542) dX10_feed_48 cs_542 ?_
    refine s_aload_n 1 dX10_feed_51 rfl rfl ?_
    refine g_X10_7 (q := 1) rfl rfl dX10_feed_52 ?_
    refine s_iconst (v := 5) dX10_feed_55 ci_5 ?_
    refine s_iald (n := 626) rfl (by decide) dX10_feed_56 ?_
    refine s_iadd dX10_feed_57 ?_
    refine s_lload_n 2 dX10_feed_58 rfl rfl ?_
    refine s_bipush (v := 8) dX10_feed_59 cb_8 ?_
    refine s_iload 0 dX10_feed_61 rfl ?_
    refine s_imul dX10_feed_63 ?_
    refine s_lshr dX10_feed_64 ?_
    refine s_ldc2 (v := 255) dX10_feed_65 q_1096 ?_
    refine s_land dX10_feed_68 ?_
    refine s_l2i dX10_feed_69 ?_
    refine s_gd fun h5 => ?_
    refine s_iast (n := 626) rfl h5 dX10_feed_70 ?_
    refine s_letM fun M6 => ?_
    refine s_aload_n 1 dX10_feed_71 rfl rfl ?_
    refine g_X10_7 (q := 1) rfl rfl dX10_feed_72 ?_
    refine s_iconst (v := 5) dX10_feed_75 ci_5 ?_
    refine s_dup2 dX10_feed_76 rfl rfl ?_
    refine s_iald (n := 626) rfl (by decide) dX10_feed_77 ?_
    refine s_iconst (v := 1) dX10_feed_78 ci_1 ?_
    refine s_iadd dX10_feed_79 ?_
    refine s_iast (n := 626) rfl (by decide) dX10_feed_80 ?_
    refine s_letM fun M7 => ?_
    refine s_iinc (k := 0) (lv' := [(4, .int (v4 + 1)), (0, rf G 0), (1, .long v1), (3, .int v3)]) dX10_feed_81 rfl ci_1 rfl rfl ?_
    refine s_goto (tgt := 38) dX10_feed_84 (by decide) ?_
    exact s_sub [0, 1, 2, 3] rfl (hq38 (v4 + 1) M7)
theorem tX10_feed_L38 (l : Launch) (G : Gx) (v1 : Int64) (v3 : Int32) : ∀ (n : Nat) (v4 : Int32) (M : Mm), Sim cQi l layM G 2 cX10_feed RX10 5 (some .int) 38 [(4, .int v4), (0, rf G 0), (1, .long v1), (3, .int v3)] [] M (fX10_feed_L38 v1 v3 n v4 M)
  | 0, _, _ => s_none
  | n + 1, v4, M => tX10_feed_L38b l G v1 v3 _ (tX10_feed_L38 l G v1 v3 n) v4 M
def fX10_feed (a1 : Int64) (a2 : Int32) (M : Mm) : Option (Int32 × Mm) :=
  bd (fX10_in a2 (1 : Int32) (8 : Int32) M) fun r1 M2 =>
  if r1 = true then (if ((M2 1 (ix (5 : Int32))) + a2) ≤ (60 : Int32) then (fX10_feed_L38 a1 a2 FU (0 : Int32) M2)
  else bd (fX10_error (4 : Int32) M2) fun r8 M9 =>
  some (r8, M9))
  else bd (fX10_error (1 : Int32) M2) fun r3 M4 =>
  some (r3, M4)
theorem mX10_feed (l : Launch) (G : Gx) (a1 : Int64) (a2 : Int32) (M : Mm) : Mt cQi l layM G 2 yX10_feed cX10_feed 5 (some .int) [rf G 0, .long a1, .int a2] M (fX10_feed a1 a2 M) := by
  refine Mt.of2 (own := RX10) (lv := [(0, rf G 0), (1, .long a1), (3, .int a2)]) rfl (by decide +kernel) rfl rfl ?_
  unfold fX10_feed
  refine s_iload_n 2 dX10_feed_0 rfl rfl ?_
  refine s_iconst (v := 1) dX10_feed_1 ci_1 ?_
  refine s_bipush (v := 8) dX10_feed_2 cb_8 ?_
  refine s_call_z (s_runS (rest := []) (mX10_in l G a2 (1 : Int32) (8 : Int32) M) ok_X10_in k_X10_59 rfl rfl rfl rfl dX10_feed_4) fun r1 M2 => ?_
  refine s_ifneB (tgt := 16) dX10_feed_7 (by decide) ?_ ?_
  · refine s_aload_n 0 dX10_feed_16 rfl rfl ?_
    refine g_X10_7 (q := 1) rfl rfl dX10_feed_17 ?_
    refine s_iconst (v := 5) dX10_feed_20 ci_5 ?_
    refine s_iald (n := 626) rfl (by decide) dX10_feed_21 ?_
    refine s_iload_n 2 dX10_feed_22 rfl rfl ?_
    refine s_iadd dX10_feed_23 ?_
    refine s_bipush (v := 60) dX10_feed_24 cb_60 ?_
    refine s_icmple (tgt := 35) dX10_feed_26 (by decide) ?_ ?_
    · refine s_iconst (v := 0) dX10_feed_35 ci_0 ?_
      refine s_istore (lv' := [(4, .int (0 : Int32)), (0, rf G 0), (1, .long a1), (3, .int a2)]) dX10_feed_36 rfl rfl ?_
      exact s_sub [0, 1, 2, 3] rfl (tX10_feed_L38 l G a1 a2 FU (0 : Int32) M2)
    · refine s_aload_n 0 dX10_feed_29 rfl rfl ?_
      refine s_iconst (v := 4) dX10_feed_30 ci_4 ?_
      refine s_call_i (s_runV (ci := 10) (rest := []) rfl rfl (mX10_error l G (4 : Int32) M2) ok_X10_error k_X10_75 rfl rfl rfl rfl dX10_feed_31) fun r8 M9 => ?_
      exact s_iret rfl dX10_feed_34
  · refine s_aload_n 0 dX10_feed_10 rfl rfl ?_
    refine s_iconst (v := 1) dX10_feed_11 ci_1 ?_
    refine s_call_i (s_runV (ci := 10) (rest := []) rfl rfl (mX10_error l G (1 : Int32) M2) ok_X10_error k_X10_75 rfl rfl rfl rfl dX10_feed_12) fun r3 M4 => ?_
    exact s_iret rfl dX10_feed_15
theorem dX10_look_0 : decode cX10_look 0 = .ok (.aload_n 0, 1) := by decide +kernel
theorem dX10_look_1 : decode cX10_look 1 = .ok (.getfield 84, 3) := by decide +kernel
theorem dX10_look_4 : decode cX10_look 4 = .ok (.aload_n 0, 1) := by decide +kernel
theorem dX10_look_5 : decode cX10_look 5 = .ok (.getfield 7, 3) := by decide +kernel
theorem dX10_look_8 : decode cX10_look 8 = .ok (.iconst 5, 1) := by decide +kernel
theorem dX10_look_9 : decode cX10_look 9 = .ok (.iaload, 1) := by decide +kernel
theorem dX10_look_10 : decode cX10_look 10 = .ok (.if_icmp .ge 19, 3) := by decide +kernel
theorem dX10_look_13 : decode cX10_look 13 = .ok (.aload_n 0, 1) := by decide +kernel
theorem dX10_look_14 : decode cX10_look 14 = .ok (.getfield 7, 3) := by decide +kernel
theorem dX10_look_17 : decode cX10_look 17 = .ok (.sipush 542, 3) := by decide +kernel
theorem dX10_look_20 : decode cX10_look 20 = .ok (.aload_n 0, 1) := by decide +kernel
theorem dX10_look_21 : decode cX10_look 21 = .ok (.getfield 84, 3) := by decide +kernel
theorem dX10_look_24 : decode cX10_look 24 = .ok (.iadd, 1) := by decide +kernel
theorem dX10_look_25 : decode cX10_look 25 = .ok (.iaload, 1) := by decide +kernel
theorem dX10_look_26 : decode cX10_look 26 = .ok (.goto 4, 3) := by decide +kernel
theorem dX10_look_29 : decode cX10_look 29 = .ok (.iconst (-1), 1) := by decide +kernel
theorem dX10_look_30 : decode cX10_look 30 = .ok (.ireturn, 1) := by decide +kernel
def fX10_look_B30 (w0 : Int32) (M : Mm) : Option (Int32 × Mm) :=
  some (w0, M)
theorem tX10_look_B30 (l : Launch) (G : Gx) (w0 : Int32) (M : Mm) : Sim cQi l layM G 1 cX10_look RX10 1 (some .int) 30 [] [.int w0] M (fX10_look_B30 w0 M) := by
  unfold fX10_look_B30
  exact s_iret rfl dX10_look_30
def fX10_look  (M : Mm) : Option (Int32 × Mm) :=
  if (M 1 (ix (5 : Int32))) ≤ (M 0 5) then (fX10_look_B30 (-1 : Int32) M)
  else gd (inb ((542 : Int32) + (M 0 5)) 626) <|
  fX10_look_B30 (M 1 (ix ((542 : Int32) + (M 0 5)))) M
theorem mX10_look (l : Launch) (G : Gx)  (M : Mm) : Mt cQi l layM G 1 yX10_look cX10_look 1 (some .int) [rf G 0] M (fX10_look M) := by
  refine Mt.of2 (own := RX10) (lv := [(0, rf G 0)]) rfl (by decide +kernel) rfl rfl ?_
  unfold fX10_look
  refine s_aload_n 0 dX10_look_0 rfl rfl ?_
  refine g_X10_84 rfl dX10_look_1 ?_
  refine s_aload_n 0 dX10_look_4 rfl rfl ?_
  refine g_X10_7 (q := 1) rfl rfl dX10_look_5 ?_
  refine s_iconst (v := 5) dX10_look_8 ci_5 ?_
  refine s_iald (n := 626) rfl (by decide) dX10_look_9 ?_
  refine s_icmpge (tgt := 29) dX10_look_10 (by decide) ?_ ?_
  · refine s_iconst (v := -1) dX10_look_29 ci_m1 ?_
    exact s_sub [] rfl (tX10_look_B30 l G (-1 : Int32) M)
  · refine s_aload_n 0 dX10_look_13 rfl rfl ?_
    refine g_X10_7 (q := 1) rfl rfl dX10_look_14 ?_
    refine s_sipush (v := 542) dX10_look_17 cs_542 ?_
    refine s_aload_n 0 dX10_look_20 rfl rfl ?_
    refine g_X10_84 rfl dX10_look_21 ?_
    refine s_iadd dX10_look_24 ?_
    refine s_gd fun h1 => ?_
    refine s_iald (n := 626) rfl h1 dX10_look_25 ?_
    refine s_goto (tgt := 30) dX10_look_26 (by decide) ?_
    exact s_sub [] rfl (tX10_look_B30 l G (M 1 (ix ((542 : Int32) + (M 0 5)))) M)
theorem dX10_isName_0 : decode cX10_isName 0 = .ok (.aload_n 0, 1) := by decide +kernel
theorem dX10_isName_1 : decode cX10_isName 1 = .ok (.getfield 88, 3) := by decide +kernel
theorem dX10_isName_4 : decode cX10_isName 4 = .ok (.ifCond .ne 35, 3) := by decide +kernel
theorem dX10_isName_7 : decode cX10_isName 7 = .ok (.iload_n 1, 1) := by decide +kernel
theorem dX10_isName_8 : decode cX10_isName 8 = .ok (.bipush 105, 2) := by decide +kernel
theorem dX10_isName_10 : decode cX10_isName 10 = .ok (.if_icmp .eq 21, 3) := by decide +kernel
theorem dX10_isName_13 : decode cX10_isName 13 = .ok (.iload_n 1, 1) := by decide +kernel
theorem dX10_isName_14 : decode cX10_isName 14 = .ok (.bipush 99, 2) := by decide +kernel
theorem dX10_isName_16 : decode cX10_isName 16 = .ok (.if_icmp .eq 15, 3) := by decide +kernel
theorem dX10_isName_19 : decode cX10_isName 19 = .ok (.iload_n 1, 1) := by decide +kernel
theorem dX10_isName_20 : decode cX10_isName 20 = .ok (.bipush 97, 2) := by decide +kernel
theorem dX10_isName_22 : decode cX10_isName 22 = .ok (.if_icmp .eq 9, 3) := by decide +kernel
theorem dX10_isName_25 : decode cX10_isName 25 = .ok (.iload_n 1, 1) := by decide +kernel
theorem dX10_isName_26 : decode cX10_isName 26 = .ok (.bipush 109, 2) := by decide +kernel
theorem dX10_isName_28 : decode cX10_isName 28 = .ok (.if_icmp .ne 7, 3) := by decide +kernel
theorem dX10_isName_31 : decode cX10_isName 31 = .ok (.iconst 1, 1) := by decide +kernel
theorem dX10_isName_32 : decode cX10_isName 32 = .ok (.goto 30, 3) := by decide +kernel
theorem dX10_isName_35 : decode cX10_isName 35 = .ok (.iconst 0, 1) := by decide +kernel
theorem dX10_isName_36 : decode cX10_isName 36 = .ok (.goto 26, 3) := by decide +kernel
theorem dX10_isName_39 : decode cX10_isName 39 = .ok (.iload_n 1, 1) := by decide +kernel
theorem dX10_isName_40 : decode cX10_isName 40 = .ok (.bipush 114, 2) := by decide +kernel
theorem dX10_isName_42 : decode cX10_isName 42 = .ok (.if_icmp .eq 15, 3) := by decide +kernel
theorem dX10_isName_45 : decode cX10_isName 45 = .ok (.iload_n 1, 1) := by decide +kernel
theorem dX10_isName_46 : decode cX10_isName 46 = .ok (.bipush 115, 2) := by decide +kernel
theorem dX10_isName_48 : decode cX10_isName 48 = .ok (.if_icmp .eq 9, 3) := by decide +kernel
theorem dX10_isName_51 : decode cX10_isName 51 = .ok (.iload_n 1, 1) := by decide +kernel
theorem dX10_isName_52 : decode cX10_isName 52 = .ok (.bipush 103, 2) := by decide +kernel
theorem dX10_isName_54 : decode cX10_isName 54 = .ok (.if_icmp .ne 7, 3) := by decide +kernel
theorem dX10_isName_57 : decode cX10_isName 57 = .ok (.iconst 1, 1) := by decide +kernel
theorem dX10_isName_58 : decode cX10_isName 58 = .ok (.goto 4, 3) := by decide +kernel
theorem dX10_isName_61 : decode cX10_isName 61 = .ok (.iconst 0, 1) := by decide +kernel
theorem dX10_isName_62 : decode cX10_isName 62 = .ok (.ireturn, 1) := by decide +kernel
def fX10_isName_B62 (w0 : Int32) (M : Mm) : Option (Bool × Mm) :=
  gd (isb w0) (some (decide (w0 = 1), M))
theorem tX10_isName_B62 (l : Launch) (G : Gx) (w0 : Int32) (M : Mm) : Sim cQz l layM G 1 cX10_isName RX10 2 (some .boolean) 62 [] [.int w0] M (fX10_isName_B62 w0 M) := by
  unfold fX10_isName_B62
  exact s_zretI rfl dX10_isName_62
def fX10_isName_B57 (M : Mm) : Option (Bool × Mm) :=
  fX10_isName_B62 (1 : Int32) M
theorem tX10_isName_B57 (l : Launch) (G : Gx) (M : Mm) : Sim cQz l layM G 1 cX10_isName RX10 2 (some .boolean) 57 [] [] M (fX10_isName_B57 M) := by
  unfold fX10_isName_B57
  refine s_iconst (v := 1) dX10_isName_57 ci_1 ?_
  refine s_goto (tgt := 62) dX10_isName_58 (by decide) ?_
  exact s_sub [] rfl (tX10_isName_B62 l G (1 : Int32) M)
def fX10_isName_B31 (M : Mm) : Option (Bool × Mm) :=
  fX10_isName_B62 (1 : Int32) M
theorem tX10_isName_B31 (l : Launch) (G : Gx) (M : Mm) : Sim cQz l layM G 1 cX10_isName RX10 2 (some .boolean) 31 [] [] M (fX10_isName_B31 M) := by
  unfold fX10_isName_B31
  refine s_iconst (v := 1) dX10_isName_31 ci_1 ?_
  refine s_goto (tgt := 62) dX10_isName_32 (by decide) ?_
  exact s_sub [] rfl (tX10_isName_B62 l G (1 : Int32) M)
def fX10_isName (a1 : Int32) (M : Mm) : Option (Bool × Mm) :=
  if (M 0 8) = 0 then (if a1 = (105 : Int32) then (fX10_isName_B31 M)
  else if a1 = (99 : Int32) then (fX10_isName_B31 M)
  else if a1 = (97 : Int32) then (fX10_isName_B31 M)
  else if a1 = (109 : Int32) then (fX10_isName_B31 M)
  else fX10_isName_B62 (0 : Int32) M)
  else if a1 = (114 : Int32) then (fX10_isName_B57 M)
  else if a1 = (115 : Int32) then (fX10_isName_B57 M)
  else if a1 = (103 : Int32) then (fX10_isName_B57 M)
  else fX10_isName_B62 (0 : Int32) M
theorem mX10_isName (l : Launch) (G : Gx) (a1 : Int32) (M : Mm) : Mt cQz l layM G 1 yX10_isName cX10_isName 2 (some .boolean) [rf G 0, .int a1] M (fX10_isName a1 M) := by
  refine Mt.of2 (own := RX10) (lv := [(0, rf G 0), (1, .int a1)]) rfl (by decide +kernel) rfl rfl ?_
  unfold fX10_isName
  refine s_aload_n 0 dX10_isName_0 rfl rfl ?_
  refine g_X10_88 rfl dX10_isName_1 ?_
  refine s_ifne (tgt := 39) dX10_isName_4 (by decide) ?_ ?_
  · refine s_iload_n 1 dX10_isName_39 rfl rfl ?_
    refine s_bipush (v := 114) dX10_isName_40 cb_114 ?_
    refine s_icmpeq (tgt := 57) dX10_isName_42 (by decide) ?_ ?_
    · exact s_sub [] rfl (tX10_isName_B57 l G M)
    · refine s_iload_n 1 dX10_isName_45 rfl rfl ?_
      refine s_bipush (v := 115) dX10_isName_46 cb_115 ?_
      refine s_icmpeq (tgt := 57) dX10_isName_48 (by decide) ?_ ?_
      · exact s_sub [] rfl (tX10_isName_B57 l G M)
      · refine s_iload_n 1 dX10_isName_51 rfl rfl ?_
        refine s_bipush (v := 103) dX10_isName_52 cb_103 ?_
        refine s_icmpne (tgt := 61) dX10_isName_54 (by decide) ?_ ?_
        · refine s_iconst (v := 0) dX10_isName_61 ci_0 ?_
          exact s_sub [] rfl (tX10_isName_B62 l G (0 : Int32) M)
        · exact s_sub [] rfl (tX10_isName_B57 l G M)
  · refine s_iload_n 1 dX10_isName_7 rfl rfl ?_
    refine s_bipush (v := 105) dX10_isName_8 cb_105 ?_
    refine s_icmpeq (tgt := 31) dX10_isName_10 (by decide) ?_ ?_
    · exact s_sub [] rfl (tX10_isName_B31 l G M)
    · refine s_iload_n 1 dX10_isName_13 rfl rfl ?_
      refine s_bipush (v := 99) dX10_isName_14 cb_99 ?_
      refine s_icmpeq (tgt := 31) dX10_isName_16 (by decide) ?_ ?_
      · exact s_sub [] rfl (tX10_isName_B31 l G M)
      · refine s_iload_n 1 dX10_isName_19 rfl rfl ?_
        refine s_bipush (v := 97) dX10_isName_20 cb_97 ?_
        refine s_icmpeq (tgt := 31) dX10_isName_22 (by decide) ?_ ?_
        · exact s_sub [] rfl (tX10_isName_B31 l G M)
        · refine s_iload_n 1 dX10_isName_25 rfl rfl ?_
          refine s_bipush (v := 109) dX10_isName_26 cb_109 ?_
          refine s_icmpne (tgt := 35) dX10_isName_28 (by decide) ?_ ?_
          · refine s_iconst (v := 0) dX10_isName_35 ci_0 ?_
            refine s_goto (tgt := 62) dX10_isName_36 (by decide) ?_
            exact s_sub [] rfl (tX10_isName_B62 l G (0 : Int32) M)
          · exact s_sub [] rfl (tX10_isName_B31 l G M)
theorem dX10_lays_0 : decode cX10_lays 0 = .ok (.aload_n 0, 1) := by decide +kernel
theorem dX10_lays_1 : decode cX10_lays 1 = .ok (.getfield 22, 3) := by decide +kernel
theorem dX10_lays_4 : decode cX10_lays 4 = .ok (.iconst 2, 1) := by decide +kernel
theorem dX10_lays_5 : decode cX10_lays 5 = .ok (.aload_n 0, 1) := by decide +kernel
theorem dX10_lays_6 : decode cX10_lays 6 = .ok (.getfield 91, 3) := by decide +kernel
theorem dX10_lays_9 : decode cX10_lays 9 = .ok (.imul, 1) := by decide +kernel
theorem dX10_lays_10 : decode cX10_lays 10 = .ok (.iload_n 1, 1) := by decide +kernel
theorem dX10_lays_11 : decode cX10_lays 11 = .ok (.iastore, 1) := by decide +kernel
theorem dX10_lays_12 : decode cX10_lays 12 = .ok (.aload_n 0, 1) := by decide +kernel
theorem dX10_lays_13 : decode cX10_lays 13 = .ok (.getfield 22, 3) := by decide +kernel
theorem dX10_lays_16 : decode cX10_lays 16 = .ok (.iconst 2, 1) := by decide +kernel
theorem dX10_lays_17 : decode cX10_lays 17 = .ok (.aload_n 0, 1) := by decide +kernel
theorem dX10_lays_18 : decode cX10_lays 18 = .ok (.getfield 91, 3) := by decide +kernel
theorem dX10_lays_21 : decode cX10_lays 21 = .ok (.imul, 1) := by decide +kernel
theorem dX10_lays_22 : decode cX10_lays 22 = .ok (.iconst 1, 1) := by decide +kernel
theorem dX10_lays_23 : decode cX10_lays 23 = .ok (.iadd, 1) := by decide +kernel
theorem dX10_lays_24 : decode cX10_lays 24 = .ok (.iload_n 2, 1) := by decide +kernel
theorem dX10_lays_25 : decode cX10_lays 25 = .ok (.iastore, 1) := by decide +kernel
theorem dX10_lays_26 : decode cX10_lays 26 = .ok (.aload_n 0, 1) := by decide +kernel
theorem dX10_lays_27 : decode cX10_lays 27 = .ok (.dup, 1) := by decide +kernel
theorem dX10_lays_28 : decode cX10_lays 28 = .ok (.getfield 91, 3) := by decide +kernel
theorem dX10_lays_31 : decode cX10_lays 31 = .ok (.iconst 1, 1) := by decide +kernel
theorem dX10_lays_32 : decode cX10_lays 32 = .ok (.iadd, 1) := by decide +kernel
theorem dX10_lays_33 : decode cX10_lays 33 = .ok (.putfield 91, 3) := by decide +kernel
theorem dX10_lays_36 : decode cX10_lays 36 = .ok (.return_, 1) := by decide +kernel
def fX10_lays (a1 : Int32) (a2 : Int32) (M : Mm) : Option (Unit × Mm) :=
  gd (inb ((2 : Int32) * (M 0 7)) 124) <|
  lt (wr M 5 (ix ((2 : Int32) * (M 0 7))) a1) fun M2 =>
  gd (inb (((2 : Int32) * (M2 0 7)) + (1 : Int32)) 124) <|
  lt (wr M2 5 (ix (((2 : Int32) * (M2 0 7)) + (1 : Int32))) a2) fun M4 =>
  lt (wr M4 0 7 ((M4 0 7) + (1 : Int32))) fun M5 =>
  some ((), M5)
theorem mX10_lays (l : Launch) (G : Gx) (a1 : Int32) (a2 : Int32) (M : Mm) : Mt cQv l layM G 1 yX10_lays cX10_lays 3 none [rf G 0, .int a1, .int a2] M (fX10_lays a1 a2 M) := by
  refine Mt.of2 (own := RX10) (lv := [(0, rf G 0), (1, .int a1), (2, .int a2)]) rfl (by decide +kernel) rfl rfl ?_
  unfold fX10_lays
  refine s_aload_n 0 dX10_lays_0 rfl rfl ?_
  refine g_X10_22 (q := 5) rfl rfl dX10_lays_1 ?_
  refine s_iconst (v := 2) dX10_lays_4 ci_2 ?_
  refine s_aload_n 0 dX10_lays_5 rfl rfl ?_
  refine g_X10_91 rfl dX10_lays_6 ?_
  refine s_imul dX10_lays_9 ?_
  refine s_iload_n 1 dX10_lays_10 rfl rfl ?_
  refine s_gd fun h1 => ?_
  refine s_iast (n := 124) rfl h1 dX10_lays_11 ?_
  refine s_letM fun M2 => ?_
  refine s_aload_n 0 dX10_lays_12 rfl rfl ?_
  refine g_X10_22 (q := 5) rfl rfl dX10_lays_13 ?_
  refine s_iconst (v := 2) dX10_lays_16 ci_2 ?_
  refine s_aload_n 0 dX10_lays_17 rfl rfl ?_
  refine g_X10_91 rfl dX10_lays_18 ?_
  refine s_imul dX10_lays_21 ?_
  refine s_iconst (v := 1) dX10_lays_22 ci_1 ?_
  refine s_iadd dX10_lays_23 ?_
  refine s_iload_n 2 dX10_lays_24 rfl rfl ?_
  refine s_gd fun h3 => ?_
  refine s_iast (n := 124) rfl h3 dX10_lays_25 ?_
  refine s_letM fun M4 => ?_
  refine s_aload_n 0 dX10_lays_26 rfl rfl ?_
  refine s_dup dX10_lays_27 rfl ?_
  refine g_X10_91 rfl dX10_lays_28 ?_
  refine s_iconst (v := 1) dX10_lays_31 ci_1 ?_
  refine s_iadd dX10_lays_32 ?_
  refine p_X10_91 rfl dX10_lays_33 ?_
  refine s_letM fun M5 => ?_
  exact s_vret rfl dX10_lays_36
theorem dX10_opens_0 : decode cX10_opens 0 = .ok (.aload_n 0, 1) := by decide +kernel
theorem dX10_opens_1 : decode cX10_opens 1 = .ok (.getfield 118, 3) := by decide +kernel
theorem dX10_opens_4 : decode cX10_opens 4 = .ok (.iconst 5, 1) := by decide +kernel
theorem dX10_opens_5 : decode cX10_opens 5 = .ok (.if_icmp .ne 5, 3) := by decide +kernel
theorem dX10_opens_8 : decode cX10_opens 8 = .ok (.iconst 0, 1) := by decide +kernel
theorem dX10_opens_9 : decode cX10_opens 9 = .ok (.ireturn, 1) := by decide +kernel
theorem dX10_opens_10 : decode cX10_opens 10 = .ok (.aload_n 0, 1) := by decide +kernel
theorem dX10_opens_11 : decode cX10_opens 11 = .ok (.dup, 1) := by decide +kernel
theorem dX10_opens_12 : decode cX10_opens 12 = .ok (.getfield 118, 3) := by decide +kernel
theorem dX10_opens_15 : decode cX10_opens 15 = .ok (.iconst 1, 1) := by decide +kernel
theorem dX10_opens_16 : decode cX10_opens 16 = .ok (.iadd, 1) := by decide +kernel
theorem dX10_opens_17 : decode cX10_opens 17 = .ok (.putfield 118, 3) := by decide +kernel
theorem dX10_opens_20 : decode cX10_opens 20 = .ok (.aload_n 0, 1) := by decide +kernel
theorem dX10_opens_21 : decode cX10_opens 21 = .ok (.dup, 1) := by decide +kernel
theorem dX10_opens_22 : decode cX10_opens 22 = .ok (.getfield 84, 3) := by decide +kernel
theorem dX10_opens_25 : decode cX10_opens 25 = .ok (.iconst 1, 1) := by decide +kernel
theorem dX10_opens_26 : decode cX10_opens 26 = .ok (.iadd, 1) := by decide +kernel
theorem dX10_opens_27 : decode cX10_opens 27 = .ok (.putfield 84, 3) := by decide +kernel
theorem dX10_opens_30 : decode cX10_opens 30 = .ok (.iconst 1, 1) := by decide +kernel
theorem dX10_opens_31 : decode cX10_opens 31 = .ok (.ireturn, 1) := by decide +kernel
def fX10_opens  (M : Mm) : Option (Bool × Mm) :=
  if (M 0 6) = (5 : Int32) then (some (false, M))
  else lt (wr M 0 6 ((M 0 6) + (1 : Int32))) fun M1 =>
  lt (wr M1 0 5 ((M1 0 5) + (1 : Int32))) fun M2 =>
  some (true, M2)
theorem mX10_opens (l : Launch) (G : Gx)  (M : Mm) : Mt cQz l layM G 1 yX10_opens cX10_opens 1 (some .boolean) [rf G 0] M (fX10_opens M) := by
  refine Mt.of2 (own := RX10) (lv := [(0, rf G 0)]) rfl (by decide +kernel) rfl rfl ?_
  unfold fX10_opens
  refine s_aload_n 0 dX10_opens_0 rfl rfl ?_
  refine g_X10_118 rfl dX10_opens_1 ?_
  refine s_iconst (v := 5) dX10_opens_4 ci_5 ?_
  refine s_icmpne (tgt := 10) dX10_opens_5 (by decide) ?_ ?_
  · refine s_aload_n 0 dX10_opens_10 rfl rfl ?_
    refine s_dup dX10_opens_11 rfl ?_
    refine g_X10_118 rfl dX10_opens_12 ?_
    refine s_iconst (v := 1) dX10_opens_15 ci_1 ?_
    refine s_iadd dX10_opens_16 ?_
    refine p_X10_118 rfl dX10_opens_17 ?_
    refine s_letM fun M1 => ?_
    refine s_aload_n 0 dX10_opens_20 rfl rfl ?_
    refine s_dup dX10_opens_21 rfl ?_
    refine g_X10_84 rfl dX10_opens_22 ?_
    refine s_iconst (v := 1) dX10_opens_25 ci_1 ?_
    refine s_iadd dX10_opens_26 ?_
    refine p_X10_84 rfl dX10_opens_27 ?_
    refine s_letM fun M2 => ?_
    refine s_iconst (v := 1) dX10_opens_30 ci_1 ?_
    exact s_zret1 rfl dX10_opens_31
  · refine s_iconst (v := 0) dX10_opens_8 ci_0 ?_
    exact s_zret0 rfl dX10_opens_9
theorem dX10_whole_0 : decode cX10_whole 0 = .ok (.aload_n 0, 1) := by decide +kernel
theorem dX10_whole_1 : decode cX10_whole 1 = .ok (.invokevirtual 94, 3) := by decide +kernel
theorem dX10_whole_4 : decode cX10_whole 4 = .ok (.ifCond .ne 5, 3) := by decide +kernel
theorem dX10_whole_7 : decode cX10_whole 7 = .ok (.iconst 0, 1) := by decide +kernel
theorem dX10_whole_8 : decode cX10_whole 8 = .ok (.ireturn, 1) := by decide +kernel
theorem dX10_whole_9 : decode cX10_whole 9 = .ok (.aload_n 0, 1) := by decide +kernel
theorem dX10_whole_10 : decode cX10_whole 10 = .ok (.invokevirtual 98, 3) := by decide +kernel
theorem dX10_whole_13 : decode cX10_whole 13 = .ok (.bipush 124, 2) := by decide +kernel
theorem dX10_whole_15 : decode cX10_whole 15 = .ok (.if_icmp .ne 32, 3) := by decide +kernel
theorem dX10_whole_18 : decode cX10_whole 18 = .ok (.aload_n 0, 1) := by decide +kernel
theorem dX10_whole_19 : decode cX10_whole 19 = .ok (.dup, 1) := by decide +kernel
theorem dX10_whole_20 : decode cX10_whole 20 = .ok (.getfield 84, 3) := by decide +kernel
theorem dX10_whole_23 : decode cX10_whole 23 = .ok (.iconst 1, 1) := by decide +kernel
theorem dX10_whole_24 : decode cX10_whole 24 = .ok (.iadd, 1) := by decide +kernel
theorem dX10_whole_25 : decode cX10_whole 25 = .ok (.putfield 84, 3) := by decide +kernel
theorem dX10_whole_28 : decode cX10_whole 28 = .ok (.aload_n 0, 1) := by decide +kernel
theorem dX10_whole_29 : decode cX10_whole 29 = .ok (.invokevirtual 94, 3) := by decide +kernel
theorem dX10_whole_32 : decode cX10_whole 32 = .ok (.ifCond .ne 5, 3) := by decide +kernel
theorem dX10_whole_35 : decode cX10_whole 35 = .ok (.iconst 0, 1) := by decide +kernel
theorem dX10_whole_36 : decode cX10_whole 36 = .ok (.ireturn, 1) := by decide +kernel
theorem dX10_whole_37 : decode cX10_whole 37 = .ok (.aload_n 0, 1) := by decide +kernel
theorem dX10_whole_38 : decode cX10_whole 38 = .ok (.iconst 3, 1) := by decide +kernel
theorem dX10_whole_39 : decode cX10_whole 39 = .ok (.bipush 124, 2) := by decide +kernel
theorem dX10_whole_41 : decode cX10_whole 41 = .ok (.invokevirtual 102, 3) := by decide +kernel
theorem dX10_whole_44 : decode cX10_whole 44 = .ok (.goto (-35), 3) := by decide +kernel
theorem dX10_whole_47 : decode cX10_whole 47 = .ok (.iconst 1, 1) := by decide +kernel
theorem dX10_whole_48 : decode cX10_whole 48 = .ok (.ireturn, 1) := by decide +kernel
def fX10_whole_B47 (zX10_whole : Mm → Option (Bool × Mm)) (zX10_both : Mm → Option (Bool × Mm)) (zX10_compared : Mm → Option (Bool × Mm)) (zX10_sum : Mm → Option (Bool × Mm)) (zX10_product : Mm → Option (Bool × Mm)) (zX10_one : Mm → Option (Bool × Mm)) (M : Mm) : Option (Bool × Mm) :=
  some (true, M)
theorem tX10_whole_B47 (l : Launch) (G : Gx) (zX10_whole : Mm → Option (Bool × Mm)) (zX10_both : Mm → Option (Bool × Mm)) (zX10_compared : Mm → Option (Bool × Mm)) (zX10_sum : Mm → Option (Bool × Mm)) (zX10_product : Mm → Option (Bool × Mm)) (zX10_one : Mm → Option (Bool × Mm)) (lev lev1 : Nat) (hlev : Nat.ble (lev1 + 1) lev = true) (hbase : 2 ≤ lev) (hzX10_whole : ∀ (M : Mm), Mt cQz l layM G lev1 yX10_whole cX10_whole 1 (some .boolean) [rf G 0] M (zX10_whole M)) (hzX10_both : ∀ (M : Mm), Mt cQz l layM G lev1 yX10_both cX10_both 1 (some .boolean) [rf G 0] M (zX10_both M)) (hzX10_compared : ∀ (M : Mm), Mt cQz l layM G lev1 yX10_compared cX10_compared 2 (some .boolean) [rf G 0] M (zX10_compared M)) (hzX10_sum : ∀ (M : Mm), Mt cQz l layM G lev1 yX10_sum cX10_sum 2 (some .boolean) [rf G 0] M (zX10_sum M)) (hzX10_product : ∀ (M : Mm), Mt cQz l layM G lev1 yX10_product cX10_product 2 (some .boolean) [rf G 0] M (zX10_product M)) (hzX10_one : ∀ (M : Mm), Mt cQz l layM G lev1 yX10_one cX10_one 4 (some .boolean) [rf G 0] M (zX10_one M)) (M : Mm) : Sim cQz l layM G lev cX10_whole RX10 1 (some .boolean) 47 [] [] M (fX10_whole_B47 zX10_whole zX10_both zX10_compared zX10_sum zX10_product zX10_one M) := by
  unfold fX10_whole_B47
  refine s_iconst (v := 1) dX10_whole_47 ci_1 ?_
  exact s_zret1 rfl dX10_whole_48
def fX10_whole_B35 (zX10_whole : Mm → Option (Bool × Mm)) (zX10_both : Mm → Option (Bool × Mm)) (zX10_compared : Mm → Option (Bool × Mm)) (zX10_sum : Mm → Option (Bool × Mm)) (zX10_product : Mm → Option (Bool × Mm)) (zX10_one : Mm → Option (Bool × Mm)) (M : Mm) : Option (Bool × Mm) :=
  some (false, M)
theorem tX10_whole_B35 (l : Launch) (G : Gx) (zX10_whole : Mm → Option (Bool × Mm)) (zX10_both : Mm → Option (Bool × Mm)) (zX10_compared : Mm → Option (Bool × Mm)) (zX10_sum : Mm → Option (Bool × Mm)) (zX10_product : Mm → Option (Bool × Mm)) (zX10_one : Mm → Option (Bool × Mm)) (lev lev1 : Nat) (hlev : Nat.ble (lev1 + 1) lev = true) (hbase : 2 ≤ lev) (hzX10_whole : ∀ (M : Mm), Mt cQz l layM G lev1 yX10_whole cX10_whole 1 (some .boolean) [rf G 0] M (zX10_whole M)) (hzX10_both : ∀ (M : Mm), Mt cQz l layM G lev1 yX10_both cX10_both 1 (some .boolean) [rf G 0] M (zX10_both M)) (hzX10_compared : ∀ (M : Mm), Mt cQz l layM G lev1 yX10_compared cX10_compared 2 (some .boolean) [rf G 0] M (zX10_compared M)) (hzX10_sum : ∀ (M : Mm), Mt cQz l layM G lev1 yX10_sum cX10_sum 2 (some .boolean) [rf G 0] M (zX10_sum M)) (hzX10_product : ∀ (M : Mm), Mt cQz l layM G lev1 yX10_product cX10_product 2 (some .boolean) [rf G 0] M (zX10_product M)) (hzX10_one : ∀ (M : Mm), Mt cQz l layM G lev1 yX10_one cX10_one 4 (some .boolean) [rf G 0] M (zX10_one M)) (M : Mm) : Sim cQz l layM G lev cX10_whole RX10 1 (some .boolean) 35 [] [] M (fX10_whole_B35 zX10_whole zX10_both zX10_compared zX10_sum zX10_product zX10_one M) := by
  unfold fX10_whole_B35
  refine s_iconst (v := 0) dX10_whole_35 ci_0 ?_
  exact s_zret0 rfl dX10_whole_36
def fX10_whole_L9b (zX10_whole : Mm → Option (Bool × Mm)) (zX10_both : Mm → Option (Bool × Mm)) (zX10_compared : Mm → Option (Bool × Mm)) (zX10_sum : Mm → Option (Bool × Mm)) (zX10_product : Mm → Option (Bool × Mm)) (zX10_one : Mm → Option (Bool × Mm)) (q9 : Mm → Option (Bool × Mm)) (M : Mm) : Option (Bool × Mm) :=
  bd (fX10_look M) fun r3 M4 =>
  if r3 = (124 : Int32) then (lt (wr M4 0 5 ((M4 0 5) + (1 : Int32))) fun M5 =>
  bd (zX10_both M5) fun r6 M7 =>
  if r6 = true then (bd (fX10_lays (3 : Int32) (124 : Int32) M7) fun r8 M9 =>
  q9 M9)
  else fX10_whole_B35 zX10_whole zX10_both zX10_compared zX10_sum zX10_product zX10_one M7)
  else fX10_whole_B47 zX10_whole zX10_both zX10_compared zX10_sum zX10_product zX10_one M4
def fX10_whole_L9 (zX10_whole : Mm → Option (Bool × Mm)) (zX10_both : Mm → Option (Bool × Mm)) (zX10_compared : Mm → Option (Bool × Mm)) (zX10_sum : Mm → Option (Bool × Mm)) (zX10_product : Mm → Option (Bool × Mm)) (zX10_one : Mm → Option (Bool × Mm)) : Nat → Mm → Option (Bool × Mm)
  | 0 => fun _ => none
  | n + 1 => fX10_whole_L9b zX10_whole zX10_both zX10_compared zX10_sum zX10_product zX10_one (fX10_whole_L9 zX10_whole zX10_both zX10_compared zX10_sum zX10_product zX10_one n)
theorem tX10_whole_L9b (l : Launch) (G : Gx) (zX10_whole : Mm → Option (Bool × Mm)) (zX10_both : Mm → Option (Bool × Mm)) (zX10_compared : Mm → Option (Bool × Mm)) (zX10_sum : Mm → Option (Bool × Mm)) (zX10_product : Mm → Option (Bool × Mm)) (zX10_one : Mm → Option (Bool × Mm)) (lev lev1 : Nat) (hlev : Nat.ble (lev1 + 1) lev = true) (hbase : 2 ≤ lev) (hzX10_whole : ∀ (M : Mm), Mt cQz l layM G lev1 yX10_whole cX10_whole 1 (some .boolean) [rf G 0] M (zX10_whole M)) (hzX10_both : ∀ (M : Mm), Mt cQz l layM G lev1 yX10_both cX10_both 1 (some .boolean) [rf G 0] M (zX10_both M)) (hzX10_compared : ∀ (M : Mm), Mt cQz l layM G lev1 yX10_compared cX10_compared 2 (some .boolean) [rf G 0] M (zX10_compared M)) (hzX10_sum : ∀ (M : Mm), Mt cQz l layM G lev1 yX10_sum cX10_sum 2 (some .boolean) [rf G 0] M (zX10_sum M)) (hzX10_product : ∀ (M : Mm), Mt cQz l layM G lev1 yX10_product cX10_product 2 (some .boolean) [rf G 0] M (zX10_product M)) (hzX10_one : ∀ (M : Mm), Mt cQz l layM G lev1 yX10_one cX10_one 4 (some .boolean) [rf G 0] M (zX10_one M)) (q9 : Mm → Option (Bool × Mm)) (hq9 : ∀ (M : Mm), Sim cQz l layM G lev cX10_whole RX10 1 (some .boolean) 9 [(0, rf G 0)] [] M (q9 M)) (M : Mm) : Sim cQz l layM G lev cX10_whole RX10 1 (some .boolean) 9 [(0, rf G 0)] [] M (fX10_whole_L9b zX10_whole zX10_both zX10_compared zX10_sum zX10_product zX10_one q9 M) := by
  unfold fX10_whole_L9b
  refine s_aload_n 0 dX10_whole_9 rfl rfl ?_
  refine s_call_i (s_runV (ci := 10) (rest := []) rfl rfl (mX10_look l G M) ok_X10_look k_X10_98 (ble_of hbase rfl) rfl rfl rfl dX10_whole_10) fun r3 M4 => ?_
  refine s_bipush (v := 124) dX10_whole_13 cb_124 ?_
  refine s_icmpne (tgt := 47) dX10_whole_15 (by decide) ?_ ?_
  · exact s_sub [] rfl (tX10_whole_B47 l G zX10_whole zX10_both zX10_compared zX10_sum zX10_product zX10_one lev lev1 hlev hbase hzX10_whole hzX10_both hzX10_compared hzX10_sum hzX10_product hzX10_one M4)
  · refine s_aload_n 0 dX10_whole_18 rfl rfl ?_
    refine s_dup dX10_whole_19 rfl ?_
    refine g_X10_84 rfl dX10_whole_20 ?_
    refine s_iconst (v := 1) dX10_whole_23 ci_1 ?_
    refine s_iadd dX10_whole_24 ?_
    refine p_X10_84 rfl dX10_whole_25 ?_
    refine s_letM fun M5 => ?_
    refine s_aload_n 0 dX10_whole_28 rfl rfl ?_
    refine s_call_z (s_runV (ci := 10) (rest := []) rfl rfl (hzX10_both M5) ok_X10_both k_X10_94 hlev rfl rfl rfl dX10_whole_29) fun r6 M7 => ?_
    refine s_ifneB (tgt := 37) dX10_whole_32 (by decide) ?_ ?_
    · refine s_aload_n 0 dX10_whole_37 rfl rfl ?_
      refine s_iconst (v := 3) dX10_whole_38 ci_3 ?_
      refine s_bipush (v := 124) dX10_whole_39 cb_124 ?_
      refine s_call_v (s_runV (ci := 10) (rest := []) rfl rfl (mX10_lays l G (3 : Int32) (124 : Int32) M7) ok_X10_lays k_X10_102 (ble_of hbase rfl) rfl rfl rfl dX10_whole_41) fun r8 M9 => ?_
      refine s_goto (tgt := 9) dX10_whole_44 (by decide) ?_
      exact s_sub [0] rfl (hq9 M9)
    · exact s_sub [] rfl (tX10_whole_B35 l G zX10_whole zX10_both zX10_compared zX10_sum zX10_product zX10_one lev lev1 hlev hbase hzX10_whole hzX10_both hzX10_compared hzX10_sum hzX10_product hzX10_one M7)
theorem tX10_whole_L9 (l : Launch) (G : Gx) (zX10_whole : Mm → Option (Bool × Mm)) (zX10_both : Mm → Option (Bool × Mm)) (zX10_compared : Mm → Option (Bool × Mm)) (zX10_sum : Mm → Option (Bool × Mm)) (zX10_product : Mm → Option (Bool × Mm)) (zX10_one : Mm → Option (Bool × Mm)) (lev lev1 : Nat) (hlev : Nat.ble (lev1 + 1) lev = true) (hbase : 2 ≤ lev) (hzX10_whole : ∀ (M : Mm), Mt cQz l layM G lev1 yX10_whole cX10_whole 1 (some .boolean) [rf G 0] M (zX10_whole M)) (hzX10_both : ∀ (M : Mm), Mt cQz l layM G lev1 yX10_both cX10_both 1 (some .boolean) [rf G 0] M (zX10_both M)) (hzX10_compared : ∀ (M : Mm), Mt cQz l layM G lev1 yX10_compared cX10_compared 2 (some .boolean) [rf G 0] M (zX10_compared M)) (hzX10_sum : ∀ (M : Mm), Mt cQz l layM G lev1 yX10_sum cX10_sum 2 (some .boolean) [rf G 0] M (zX10_sum M)) (hzX10_product : ∀ (M : Mm), Mt cQz l layM G lev1 yX10_product cX10_product 2 (some .boolean) [rf G 0] M (zX10_product M)) (hzX10_one : ∀ (M : Mm), Mt cQz l layM G lev1 yX10_one cX10_one 4 (some .boolean) [rf G 0] M (zX10_one M)) : ∀ (n : Nat) (M : Mm), Sim cQz l layM G lev cX10_whole RX10 1 (some .boolean) 9 [(0, rf G 0)] [] M (fX10_whole_L9 zX10_whole zX10_both zX10_compared zX10_sum zX10_product zX10_one n M)
  | 0, _ => s_none
  | n + 1, M => tX10_whole_L9b l G zX10_whole zX10_both zX10_compared zX10_sum zX10_product zX10_one lev lev1 hlev hbase hzX10_whole hzX10_both hzX10_compared hzX10_sum hzX10_product hzX10_one _ (tX10_whole_L9 l G zX10_whole zX10_both zX10_compared zX10_sum zX10_product zX10_one lev lev1 hlev hbase hzX10_whole hzX10_both hzX10_compared hzX10_sum hzX10_product hzX10_one n) M
def fX10_whole_b (zX10_whole : Mm → Option (Bool × Mm)) (zX10_both : Mm → Option (Bool × Mm)) (zX10_compared : Mm → Option (Bool × Mm)) (zX10_sum : Mm → Option (Bool × Mm)) (zX10_product : Mm → Option (Bool × Mm)) (zX10_one : Mm → Option (Bool × Mm)) (M : Mm) : Option (Bool × Mm) :=
  bd (zX10_both M) fun r1 M2 =>
  if r1 = true then (fX10_whole_L9 zX10_whole zX10_both zX10_compared zX10_sum zX10_product zX10_one FU M2)
  else some (false, M2)
theorem mX10_whole_b (l : Launch) (G : Gx) (zX10_whole : Mm → Option (Bool × Mm)) (zX10_both : Mm → Option (Bool × Mm)) (zX10_compared : Mm → Option (Bool × Mm)) (zX10_sum : Mm → Option (Bool × Mm)) (zX10_product : Mm → Option (Bool × Mm)) (zX10_one : Mm → Option (Bool × Mm)) (lev lev1 : Nat) (hlev : Nat.ble (lev1 + 1) lev = true) (hbase : 2 ≤ lev) (hzX10_whole : ∀ (M : Mm), Mt cQz l layM G lev1 yX10_whole cX10_whole 1 (some .boolean) [rf G 0] M (zX10_whole M)) (hzX10_both : ∀ (M : Mm), Mt cQz l layM G lev1 yX10_both cX10_both 1 (some .boolean) [rf G 0] M (zX10_both M)) (hzX10_compared : ∀ (M : Mm), Mt cQz l layM G lev1 yX10_compared cX10_compared 2 (some .boolean) [rf G 0] M (zX10_compared M)) (hzX10_sum : ∀ (M : Mm), Mt cQz l layM G lev1 yX10_sum cX10_sum 2 (some .boolean) [rf G 0] M (zX10_sum M)) (hzX10_product : ∀ (M : Mm), Mt cQz l layM G lev1 yX10_product cX10_product 2 (some .boolean) [rf G 0] M (zX10_product M)) (hzX10_one : ∀ (M : Mm), Mt cQz l layM G lev1 yX10_one cX10_one 4 (some .boolean) [rf G 0] M (zX10_one M)) (M : Mm) : Mt cQz l layM G lev yX10_whole cX10_whole 1 (some .boolean) [rf G 0] M (fX10_whole_b zX10_whole zX10_both zX10_compared zX10_sum zX10_product zX10_one M) := by
  refine Mt.of2 (own := RX10) (lv := [(0, rf G 0)]) rfl (by decide +kernel) rfl rfl ?_
  unfold fX10_whole_b
  refine s_aload_n 0 dX10_whole_0 rfl rfl ?_
  refine s_call_z (s_runV (ci := 10) (rest := []) rfl rfl (hzX10_both M) ok_X10_both k_X10_94 hlev rfl rfl rfl dX10_whole_1) fun r1 M2 => ?_
  refine s_ifneB (tgt := 9) dX10_whole_4 (by decide) ?_ ?_
  · exact s_sub [0] rfl (tX10_whole_L9 l G zX10_whole zX10_both zX10_compared zX10_sum zX10_product zX10_one lev lev1 hlev hbase hzX10_whole hzX10_both hzX10_compared hzX10_sum hzX10_product hzX10_one FU M2)
  · refine s_iconst (v := 0) dX10_whole_7 ci_0 ?_
    exact s_zret0 rfl dX10_whole_8
theorem dX10_both_0 : decode cX10_both 0 = .ok (.aload_n 0, 1) := by decide +kernel
theorem dX10_both_1 : decode cX10_both 1 = .ok (.invokevirtual 106, 3) := by decide +kernel
theorem dX10_both_4 : decode cX10_both 4 = .ok (.ifCond .ne 5, 3) := by decide +kernel
theorem dX10_both_7 : decode cX10_both 7 = .ok (.iconst 0, 1) := by decide +kernel
theorem dX10_both_8 : decode cX10_both 8 = .ok (.ireturn, 1) := by decide +kernel
theorem dX10_both_9 : decode cX10_both 9 = .ok (.aload_n 0, 1) := by decide +kernel
theorem dX10_both_10 : decode cX10_both 10 = .ok (.invokevirtual 98, 3) := by decide +kernel
theorem dX10_both_13 : decode cX10_both 13 = .ok (.bipush 38, 2) := by decide +kernel
theorem dX10_both_15 : decode cX10_both 15 = .ok (.if_icmp .ne 32, 3) := by decide +kernel
theorem dX10_both_18 : decode cX10_both 18 = .ok (.aload_n 0, 1) := by decide +kernel
theorem dX10_both_19 : decode cX10_both 19 = .ok (.dup, 1) := by decide +kernel
theorem dX10_both_20 : decode cX10_both 20 = .ok (.getfield 84, 3) := by decide +kernel
theorem dX10_both_23 : decode cX10_both 23 = .ok (.iconst 1, 1) := by decide +kernel
theorem dX10_both_24 : decode cX10_both 24 = .ok (.iadd, 1) := by decide +kernel
theorem dX10_both_25 : decode cX10_both 25 = .ok (.putfield 84, 3) := by decide +kernel
theorem dX10_both_28 : decode cX10_both 28 = .ok (.aload_n 0, 1) := by decide +kernel
theorem dX10_both_29 : decode cX10_both 29 = .ok (.invokevirtual 106, 3) := by decide +kernel
theorem dX10_both_32 : decode cX10_both 32 = .ok (.ifCond .ne 5, 3) := by decide +kernel
theorem dX10_both_35 : decode cX10_both 35 = .ok (.iconst 0, 1) := by decide +kernel
theorem dX10_both_36 : decode cX10_both 36 = .ok (.ireturn, 1) := by decide +kernel
theorem dX10_both_37 : decode cX10_both 37 = .ok (.aload_n 0, 1) := by decide +kernel
theorem dX10_both_38 : decode cX10_both 38 = .ok (.iconst 3, 1) := by decide +kernel
theorem dX10_both_39 : decode cX10_both 39 = .ok (.bipush 38, 2) := by decide +kernel
theorem dX10_both_41 : decode cX10_both 41 = .ok (.invokevirtual 102, 3) := by decide +kernel
theorem dX10_both_44 : decode cX10_both 44 = .ok (.goto (-35), 3) := by decide +kernel
theorem dX10_both_47 : decode cX10_both 47 = .ok (.iconst 1, 1) := by decide +kernel
theorem dX10_both_48 : decode cX10_both 48 = .ok (.ireturn, 1) := by decide +kernel
def fX10_both_B47 (zX10_whole : Mm → Option (Bool × Mm)) (zX10_both : Mm → Option (Bool × Mm)) (zX10_compared : Mm → Option (Bool × Mm)) (zX10_sum : Mm → Option (Bool × Mm)) (zX10_product : Mm → Option (Bool × Mm)) (zX10_one : Mm → Option (Bool × Mm)) (M : Mm) : Option (Bool × Mm) :=
  some (true, M)
theorem tX10_both_B47 (l : Launch) (G : Gx) (zX10_whole : Mm → Option (Bool × Mm)) (zX10_both : Mm → Option (Bool × Mm)) (zX10_compared : Mm → Option (Bool × Mm)) (zX10_sum : Mm → Option (Bool × Mm)) (zX10_product : Mm → Option (Bool × Mm)) (zX10_one : Mm → Option (Bool × Mm)) (lev lev1 : Nat) (hlev : Nat.ble (lev1 + 1) lev = true) (hbase : 2 ≤ lev) (hzX10_whole : ∀ (M : Mm), Mt cQz l layM G lev1 yX10_whole cX10_whole 1 (some .boolean) [rf G 0] M (zX10_whole M)) (hzX10_both : ∀ (M : Mm), Mt cQz l layM G lev1 yX10_both cX10_both 1 (some .boolean) [rf G 0] M (zX10_both M)) (hzX10_compared : ∀ (M : Mm), Mt cQz l layM G lev1 yX10_compared cX10_compared 2 (some .boolean) [rf G 0] M (zX10_compared M)) (hzX10_sum : ∀ (M : Mm), Mt cQz l layM G lev1 yX10_sum cX10_sum 2 (some .boolean) [rf G 0] M (zX10_sum M)) (hzX10_product : ∀ (M : Mm), Mt cQz l layM G lev1 yX10_product cX10_product 2 (some .boolean) [rf G 0] M (zX10_product M)) (hzX10_one : ∀ (M : Mm), Mt cQz l layM G lev1 yX10_one cX10_one 4 (some .boolean) [rf G 0] M (zX10_one M)) (M : Mm) : Sim cQz l layM G lev cX10_both RX10 1 (some .boolean) 47 [] [] M (fX10_both_B47 zX10_whole zX10_both zX10_compared zX10_sum zX10_product zX10_one M) := by
  unfold fX10_both_B47
  refine s_iconst (v := 1) dX10_both_47 ci_1 ?_
  exact s_zret1 rfl dX10_both_48
def fX10_both_B35 (zX10_whole : Mm → Option (Bool × Mm)) (zX10_both : Mm → Option (Bool × Mm)) (zX10_compared : Mm → Option (Bool × Mm)) (zX10_sum : Mm → Option (Bool × Mm)) (zX10_product : Mm → Option (Bool × Mm)) (zX10_one : Mm → Option (Bool × Mm)) (M : Mm) : Option (Bool × Mm) :=
  some (false, M)
theorem tX10_both_B35 (l : Launch) (G : Gx) (zX10_whole : Mm → Option (Bool × Mm)) (zX10_both : Mm → Option (Bool × Mm)) (zX10_compared : Mm → Option (Bool × Mm)) (zX10_sum : Mm → Option (Bool × Mm)) (zX10_product : Mm → Option (Bool × Mm)) (zX10_one : Mm → Option (Bool × Mm)) (lev lev1 : Nat) (hlev : Nat.ble (lev1 + 1) lev = true) (hbase : 2 ≤ lev) (hzX10_whole : ∀ (M : Mm), Mt cQz l layM G lev1 yX10_whole cX10_whole 1 (some .boolean) [rf G 0] M (zX10_whole M)) (hzX10_both : ∀ (M : Mm), Mt cQz l layM G lev1 yX10_both cX10_both 1 (some .boolean) [rf G 0] M (zX10_both M)) (hzX10_compared : ∀ (M : Mm), Mt cQz l layM G lev1 yX10_compared cX10_compared 2 (some .boolean) [rf G 0] M (zX10_compared M)) (hzX10_sum : ∀ (M : Mm), Mt cQz l layM G lev1 yX10_sum cX10_sum 2 (some .boolean) [rf G 0] M (zX10_sum M)) (hzX10_product : ∀ (M : Mm), Mt cQz l layM G lev1 yX10_product cX10_product 2 (some .boolean) [rf G 0] M (zX10_product M)) (hzX10_one : ∀ (M : Mm), Mt cQz l layM G lev1 yX10_one cX10_one 4 (some .boolean) [rf G 0] M (zX10_one M)) (M : Mm) : Sim cQz l layM G lev cX10_both RX10 1 (some .boolean) 35 [] [] M (fX10_both_B35 zX10_whole zX10_both zX10_compared zX10_sum zX10_product zX10_one M) := by
  unfold fX10_both_B35
  refine s_iconst (v := 0) dX10_both_35 ci_0 ?_
  exact s_zret0 rfl dX10_both_36
def fX10_both_L9b (zX10_whole : Mm → Option (Bool × Mm)) (zX10_both : Mm → Option (Bool × Mm)) (zX10_compared : Mm → Option (Bool × Mm)) (zX10_sum : Mm → Option (Bool × Mm)) (zX10_product : Mm → Option (Bool × Mm)) (zX10_one : Mm → Option (Bool × Mm)) (q9 : Mm → Option (Bool × Mm)) (M : Mm) : Option (Bool × Mm) :=
  bd (fX10_look M) fun r3 M4 =>
  if r3 = (38 : Int32) then (lt (wr M4 0 5 ((M4 0 5) + (1 : Int32))) fun M5 =>
  bd (zX10_compared M5) fun r6 M7 =>
  if r6 = true then (bd (fX10_lays (3 : Int32) (38 : Int32) M7) fun r8 M9 =>
  q9 M9)
  else fX10_both_B35 zX10_whole zX10_both zX10_compared zX10_sum zX10_product zX10_one M7)
  else fX10_both_B47 zX10_whole zX10_both zX10_compared zX10_sum zX10_product zX10_one M4
def fX10_both_L9 (zX10_whole : Mm → Option (Bool × Mm)) (zX10_both : Mm → Option (Bool × Mm)) (zX10_compared : Mm → Option (Bool × Mm)) (zX10_sum : Mm → Option (Bool × Mm)) (zX10_product : Mm → Option (Bool × Mm)) (zX10_one : Mm → Option (Bool × Mm)) : Nat → Mm → Option (Bool × Mm)
  | 0 => fun _ => none
  | n + 1 => fX10_both_L9b zX10_whole zX10_both zX10_compared zX10_sum zX10_product zX10_one (fX10_both_L9 zX10_whole zX10_both zX10_compared zX10_sum zX10_product zX10_one n)
theorem tX10_both_L9b (l : Launch) (G : Gx) (zX10_whole : Mm → Option (Bool × Mm)) (zX10_both : Mm → Option (Bool × Mm)) (zX10_compared : Mm → Option (Bool × Mm)) (zX10_sum : Mm → Option (Bool × Mm)) (zX10_product : Mm → Option (Bool × Mm)) (zX10_one : Mm → Option (Bool × Mm)) (lev lev1 : Nat) (hlev : Nat.ble (lev1 + 1) lev = true) (hbase : 2 ≤ lev) (hzX10_whole : ∀ (M : Mm), Mt cQz l layM G lev1 yX10_whole cX10_whole 1 (some .boolean) [rf G 0] M (zX10_whole M)) (hzX10_both : ∀ (M : Mm), Mt cQz l layM G lev1 yX10_both cX10_both 1 (some .boolean) [rf G 0] M (zX10_both M)) (hzX10_compared : ∀ (M : Mm), Mt cQz l layM G lev1 yX10_compared cX10_compared 2 (some .boolean) [rf G 0] M (zX10_compared M)) (hzX10_sum : ∀ (M : Mm), Mt cQz l layM G lev1 yX10_sum cX10_sum 2 (some .boolean) [rf G 0] M (zX10_sum M)) (hzX10_product : ∀ (M : Mm), Mt cQz l layM G lev1 yX10_product cX10_product 2 (some .boolean) [rf G 0] M (zX10_product M)) (hzX10_one : ∀ (M : Mm), Mt cQz l layM G lev1 yX10_one cX10_one 4 (some .boolean) [rf G 0] M (zX10_one M)) (q9 : Mm → Option (Bool × Mm)) (hq9 : ∀ (M : Mm), Sim cQz l layM G lev cX10_both RX10 1 (some .boolean) 9 [(0, rf G 0)] [] M (q9 M)) (M : Mm) : Sim cQz l layM G lev cX10_both RX10 1 (some .boolean) 9 [(0, rf G 0)] [] M (fX10_both_L9b zX10_whole zX10_both zX10_compared zX10_sum zX10_product zX10_one q9 M) := by
  unfold fX10_both_L9b
  refine s_aload_n 0 dX10_both_9 rfl rfl ?_
  refine s_call_i (s_runV (ci := 10) (rest := []) rfl rfl (mX10_look l G M) ok_X10_look k_X10_98 (ble_of hbase rfl) rfl rfl rfl dX10_both_10) fun r3 M4 => ?_
  refine s_bipush (v := 38) dX10_both_13 cb_38 ?_
  refine s_icmpne (tgt := 47) dX10_both_15 (by decide) ?_ ?_
  · exact s_sub [] rfl (tX10_both_B47 l G zX10_whole zX10_both zX10_compared zX10_sum zX10_product zX10_one lev lev1 hlev hbase hzX10_whole hzX10_both hzX10_compared hzX10_sum hzX10_product hzX10_one M4)
  · refine s_aload_n 0 dX10_both_18 rfl rfl ?_
    refine s_dup dX10_both_19 rfl ?_
    refine g_X10_84 rfl dX10_both_20 ?_
    refine s_iconst (v := 1) dX10_both_23 ci_1 ?_
    refine s_iadd dX10_both_24 ?_
    refine p_X10_84 rfl dX10_both_25 ?_
    refine s_letM fun M5 => ?_
    refine s_aload_n 0 dX10_both_28 rfl rfl ?_
    refine s_call_z (s_runV (ci := 10) (rest := []) rfl rfl (hzX10_compared M5) ok_X10_compared k_X10_106 hlev rfl rfl rfl dX10_both_29) fun r6 M7 => ?_
    refine s_ifneB (tgt := 37) dX10_both_32 (by decide) ?_ ?_
    · refine s_aload_n 0 dX10_both_37 rfl rfl ?_
      refine s_iconst (v := 3) dX10_both_38 ci_3 ?_
      refine s_bipush (v := 38) dX10_both_39 cb_38 ?_
      refine s_call_v (s_runV (ci := 10) (rest := []) rfl rfl (mX10_lays l G (3 : Int32) (38 : Int32) M7) ok_X10_lays k_X10_102 (ble_of hbase rfl) rfl rfl rfl dX10_both_41) fun r8 M9 => ?_
      refine s_goto (tgt := 9) dX10_both_44 (by decide) ?_
      exact s_sub [0] rfl (hq9 M9)
    · exact s_sub [] rfl (tX10_both_B35 l G zX10_whole zX10_both zX10_compared zX10_sum zX10_product zX10_one lev lev1 hlev hbase hzX10_whole hzX10_both hzX10_compared hzX10_sum hzX10_product hzX10_one M7)
theorem tX10_both_L9 (l : Launch) (G : Gx) (zX10_whole : Mm → Option (Bool × Mm)) (zX10_both : Mm → Option (Bool × Mm)) (zX10_compared : Mm → Option (Bool × Mm)) (zX10_sum : Mm → Option (Bool × Mm)) (zX10_product : Mm → Option (Bool × Mm)) (zX10_one : Mm → Option (Bool × Mm)) (lev lev1 : Nat) (hlev : Nat.ble (lev1 + 1) lev = true) (hbase : 2 ≤ lev) (hzX10_whole : ∀ (M : Mm), Mt cQz l layM G lev1 yX10_whole cX10_whole 1 (some .boolean) [rf G 0] M (zX10_whole M)) (hzX10_both : ∀ (M : Mm), Mt cQz l layM G lev1 yX10_both cX10_both 1 (some .boolean) [rf G 0] M (zX10_both M)) (hzX10_compared : ∀ (M : Mm), Mt cQz l layM G lev1 yX10_compared cX10_compared 2 (some .boolean) [rf G 0] M (zX10_compared M)) (hzX10_sum : ∀ (M : Mm), Mt cQz l layM G lev1 yX10_sum cX10_sum 2 (some .boolean) [rf G 0] M (zX10_sum M)) (hzX10_product : ∀ (M : Mm), Mt cQz l layM G lev1 yX10_product cX10_product 2 (some .boolean) [rf G 0] M (zX10_product M)) (hzX10_one : ∀ (M : Mm), Mt cQz l layM G lev1 yX10_one cX10_one 4 (some .boolean) [rf G 0] M (zX10_one M)) : ∀ (n : Nat) (M : Mm), Sim cQz l layM G lev cX10_both RX10 1 (some .boolean) 9 [(0, rf G 0)] [] M (fX10_both_L9 zX10_whole zX10_both zX10_compared zX10_sum zX10_product zX10_one n M)
  | 0, _ => s_none
  | n + 1, M => tX10_both_L9b l G zX10_whole zX10_both zX10_compared zX10_sum zX10_product zX10_one lev lev1 hlev hbase hzX10_whole hzX10_both hzX10_compared hzX10_sum hzX10_product hzX10_one _ (tX10_both_L9 l G zX10_whole zX10_both zX10_compared zX10_sum zX10_product zX10_one lev lev1 hlev hbase hzX10_whole hzX10_both hzX10_compared hzX10_sum hzX10_product hzX10_one n) M
def fX10_both_b (zX10_whole : Mm → Option (Bool × Mm)) (zX10_both : Mm → Option (Bool × Mm)) (zX10_compared : Mm → Option (Bool × Mm)) (zX10_sum : Mm → Option (Bool × Mm)) (zX10_product : Mm → Option (Bool × Mm)) (zX10_one : Mm → Option (Bool × Mm)) (M : Mm) : Option (Bool × Mm) :=
  bd (zX10_compared M) fun r1 M2 =>
  if r1 = true then (fX10_both_L9 zX10_whole zX10_both zX10_compared zX10_sum zX10_product zX10_one FU M2)
  else some (false, M2)
theorem mX10_both_b (l : Launch) (G : Gx) (zX10_whole : Mm → Option (Bool × Mm)) (zX10_both : Mm → Option (Bool × Mm)) (zX10_compared : Mm → Option (Bool × Mm)) (zX10_sum : Mm → Option (Bool × Mm)) (zX10_product : Mm → Option (Bool × Mm)) (zX10_one : Mm → Option (Bool × Mm)) (lev lev1 : Nat) (hlev : Nat.ble (lev1 + 1) lev = true) (hbase : 2 ≤ lev) (hzX10_whole : ∀ (M : Mm), Mt cQz l layM G lev1 yX10_whole cX10_whole 1 (some .boolean) [rf G 0] M (zX10_whole M)) (hzX10_both : ∀ (M : Mm), Mt cQz l layM G lev1 yX10_both cX10_both 1 (some .boolean) [rf G 0] M (zX10_both M)) (hzX10_compared : ∀ (M : Mm), Mt cQz l layM G lev1 yX10_compared cX10_compared 2 (some .boolean) [rf G 0] M (zX10_compared M)) (hzX10_sum : ∀ (M : Mm), Mt cQz l layM G lev1 yX10_sum cX10_sum 2 (some .boolean) [rf G 0] M (zX10_sum M)) (hzX10_product : ∀ (M : Mm), Mt cQz l layM G lev1 yX10_product cX10_product 2 (some .boolean) [rf G 0] M (zX10_product M)) (hzX10_one : ∀ (M : Mm), Mt cQz l layM G lev1 yX10_one cX10_one 4 (some .boolean) [rf G 0] M (zX10_one M)) (M : Mm) : Mt cQz l layM G lev yX10_both cX10_both 1 (some .boolean) [rf G 0] M (fX10_both_b zX10_whole zX10_both zX10_compared zX10_sum zX10_product zX10_one M) := by
  refine Mt.of2 (own := RX10) (lv := [(0, rf G 0)]) rfl (by decide +kernel) rfl rfl ?_
  unfold fX10_both_b
  refine s_aload_n 0 dX10_both_0 rfl rfl ?_
  refine s_call_z (s_runV (ci := 10) (rest := []) rfl rfl (hzX10_compared M) ok_X10_compared k_X10_106 hlev rfl rfl rfl dX10_both_1) fun r1 M2 => ?_
  refine s_ifneB (tgt := 9) dX10_both_4 (by decide) ?_ ?_
  · exact s_sub [0] rfl (tX10_both_L9 l G zX10_whole zX10_both zX10_compared zX10_sum zX10_product zX10_one lev lev1 hlev hbase hzX10_whole hzX10_both hzX10_compared hzX10_sum hzX10_product hzX10_one FU M2)
  · refine s_iconst (v := 0) dX10_both_7 ci_0 ?_
    exact s_zret0 rfl dX10_both_8
theorem dX10_compared_0 : decode cX10_compared 0 = .ok (.aload_n 0, 1) := by decide +kernel
theorem dX10_compared_1 : decode cX10_compared 1 = .ok (.invokevirtual 109, 3) := by decide +kernel
theorem dX10_compared_4 : decode cX10_compared 4 = .ok (.ifCond .ne 5, 3) := by decide +kernel
theorem dX10_compared_7 : decode cX10_compared 7 = .ok (.iconst 0, 1) := by decide +kernel
theorem dX10_compared_8 : decode cX10_compared 8 = .ok (.ireturn, 1) := by decide +kernel
theorem dX10_compared_9 : decode cX10_compared 9 = .ok (.aload_n 0, 1) := by decide +kernel
theorem dX10_compared_10 : decode cX10_compared 10 = .ok (.invokevirtual 98, 3) := by decide +kernel
theorem dX10_compared_13 : decode cX10_compared 13 = .ok (.istore_n 1, 1) := by decide +kernel
theorem dX10_compared_14 : decode cX10_compared 14 = .ok (.iload_n 1, 1) := by decide +kernel
theorem dX10_compared_15 : decode cX10_compared 15 = .ok (.bipush 60, 2) := by decide +kernel
theorem dX10_compared_17 : decode cX10_compared 17 = .ok (.if_icmp .eq 17, 3) := by decide +kernel
theorem dX10_compared_20 : decode cX10_compared 20 = .ok (.iload_n 1, 1) := by decide +kernel
theorem dX10_compared_21 : decode cX10_compared 21 = .ok (.bipush 61, 2) := by decide +kernel
theorem dX10_compared_23 : decode cX10_compared 23 = .ok (.if_icmp .eq 11, 3) := by decide +kernel
theorem dX10_compared_26 : decode cX10_compared 26 = .ok (.iload_n 1, 1) := by decide +kernel
theorem dX10_compared_27 : decode cX10_compared 27 = .ok (.bipush 62, 2) := by decide +kernel
theorem dX10_compared_29 : decode cX10_compared 29 = .ok (.if_icmp .eq 5, 3) := by decide +kernel
theorem dX10_compared_32 : decode cX10_compared 32 = .ok (.iconst 1, 1) := by decide +kernel
theorem dX10_compared_33 : decode cX10_compared 33 = .ok (.ireturn, 1) := by decide +kernel
theorem dX10_compared_34 : decode cX10_compared 34 = .ok (.aload_n 0, 1) := by decide +kernel
theorem dX10_compared_35 : decode cX10_compared 35 = .ok (.dup, 1) := by decide +kernel
theorem dX10_compared_36 : decode cX10_compared 36 = .ok (.getfield 84, 3) := by decide +kernel
theorem dX10_compared_39 : decode cX10_compared 39 = .ok (.iconst 1, 1) := by decide +kernel
theorem dX10_compared_40 : decode cX10_compared 40 = .ok (.iadd, 1) := by decide +kernel
theorem dX10_compared_41 : decode cX10_compared 41 = .ok (.putfield 84, 3) := by decide +kernel
theorem dX10_compared_44 : decode cX10_compared 44 = .ok (.aload_n 0, 1) := by decide +kernel
theorem dX10_compared_45 : decode cX10_compared 45 = .ok (.invokevirtual 109, 3) := by decide +kernel
theorem dX10_compared_48 : decode cX10_compared 48 = .ok (.ifCond .ne 5, 3) := by decide +kernel
theorem dX10_compared_51 : decode cX10_compared 51 = .ok (.iconst 0, 1) := by decide +kernel
theorem dX10_compared_52 : decode cX10_compared 52 = .ok (.ireturn, 1) := by decide +kernel
theorem dX10_compared_53 : decode cX10_compared 53 = .ok (.aload_n 0, 1) := by decide +kernel
theorem dX10_compared_54 : decode cX10_compared 54 = .ok (.iconst 3, 1) := by decide +kernel
theorem dX10_compared_55 : decode cX10_compared 55 = .ok (.iload_n 1, 1) := by decide +kernel
theorem dX10_compared_56 : decode cX10_compared 56 = .ok (.invokevirtual 102, 3) := by decide +kernel
theorem dX10_compared_59 : decode cX10_compared 59 = .ok (.iconst 1, 1) := by decide +kernel
theorem dX10_compared_60 : decode cX10_compared 60 = .ok (.ireturn, 1) := by decide +kernel
def fX10_compared_B34 (zX10_whole : Mm → Option (Bool × Mm)) (zX10_both : Mm → Option (Bool × Mm)) (zX10_compared : Mm → Option (Bool × Mm)) (zX10_sum : Mm → Option (Bool × Mm)) (zX10_product : Mm → Option (Bool × Mm)) (zX10_one : Mm → Option (Bool × Mm)) (v1 : Int32) (M : Mm) : Option (Bool × Mm) :=
  lt (wr M 0 5 ((M 0 5) + (1 : Int32))) fun M5 =>
  bd (zX10_sum M5) fun r6 M7 =>
  if r6 = true then (bd (fX10_lays (3 : Int32) v1 M7) fun r8 M9 =>
  some (true, M9))
  else some (false, M7)
theorem tX10_compared_B34 (l : Launch) (G : Gx) (zX10_whole : Mm → Option (Bool × Mm)) (zX10_both : Mm → Option (Bool × Mm)) (zX10_compared : Mm → Option (Bool × Mm)) (zX10_sum : Mm → Option (Bool × Mm)) (zX10_product : Mm → Option (Bool × Mm)) (zX10_one : Mm → Option (Bool × Mm)) (lev lev1 : Nat) (hlev : Nat.ble (lev1 + 1) lev = true) (hbase : 2 ≤ lev) (hzX10_whole : ∀ (M : Mm), Mt cQz l layM G lev1 yX10_whole cX10_whole 1 (some .boolean) [rf G 0] M (zX10_whole M)) (hzX10_both : ∀ (M : Mm), Mt cQz l layM G lev1 yX10_both cX10_both 1 (some .boolean) [rf G 0] M (zX10_both M)) (hzX10_compared : ∀ (M : Mm), Mt cQz l layM G lev1 yX10_compared cX10_compared 2 (some .boolean) [rf G 0] M (zX10_compared M)) (hzX10_sum : ∀ (M : Mm), Mt cQz l layM G lev1 yX10_sum cX10_sum 2 (some .boolean) [rf G 0] M (zX10_sum M)) (hzX10_product : ∀ (M : Mm), Mt cQz l layM G lev1 yX10_product cX10_product 2 (some .boolean) [rf G 0] M (zX10_product M)) (hzX10_one : ∀ (M : Mm), Mt cQz l layM G lev1 yX10_one cX10_one 4 (some .boolean) [rf G 0] M (zX10_one M)) (v1 : Int32) (M : Mm) : Sim cQz l layM G lev cX10_compared RX10 2 (some .boolean) 34 [(1, .int v1), (0, rf G 0)] [] M (fX10_compared_B34 zX10_whole zX10_both zX10_compared zX10_sum zX10_product zX10_one v1 M) := by
  unfold fX10_compared_B34
  refine s_aload_n 1 dX10_compared_34 rfl rfl ?_
  refine s_dup dX10_compared_35 rfl ?_
  refine g_X10_84 rfl dX10_compared_36 ?_
  refine s_iconst (v := 1) dX10_compared_39 ci_1 ?_
  refine s_iadd dX10_compared_40 ?_
  refine p_X10_84 rfl dX10_compared_41 ?_
  refine s_letM fun M5 => ?_
  refine s_aload_n 1 dX10_compared_44 rfl rfl ?_
  refine s_call_z (s_runV (ci := 10) (rest := []) rfl rfl (hzX10_sum M5) ok_X10_sum k_X10_109 hlev rfl rfl rfl dX10_compared_45) fun r6 M7 => ?_
  refine s_ifneB (tgt := 53) dX10_compared_48 (by decide) ?_ ?_
  · refine s_aload_n 1 dX10_compared_53 rfl rfl ?_
    refine s_iconst (v := 3) dX10_compared_54 ci_3 ?_
    refine s_iload_n 0 dX10_compared_55 rfl rfl ?_
    refine s_call_v (s_runV (ci := 10) (rest := []) rfl rfl (mX10_lays l G (3 : Int32) v1 M7) ok_X10_lays k_X10_102 (ble_of hbase rfl) rfl rfl rfl dX10_compared_56) fun r8 M9 => ?_
    refine s_iconst (v := 1) dX10_compared_59 ci_1 ?_
    exact s_zret1 rfl dX10_compared_60
  · refine s_iconst (v := 0) dX10_compared_51 ci_0 ?_
    exact s_zret0 rfl dX10_compared_52
def fX10_compared_b (zX10_whole : Mm → Option (Bool × Mm)) (zX10_both : Mm → Option (Bool × Mm)) (zX10_compared : Mm → Option (Bool × Mm)) (zX10_sum : Mm → Option (Bool × Mm)) (zX10_product : Mm → Option (Bool × Mm)) (zX10_one : Mm → Option (Bool × Mm)) (M : Mm) : Option (Bool × Mm) :=
  bd (zX10_sum M) fun r1 M2 =>
  if r1 = true then (bd (fX10_look M2) fun r3 M4 =>
  if r3 = (60 : Int32) then (fX10_compared_B34 zX10_whole zX10_both zX10_compared zX10_sum zX10_product zX10_one r3 M4)
  else if r3 = (61 : Int32) then (fX10_compared_B34 zX10_whole zX10_both zX10_compared zX10_sum zX10_product zX10_one r3 M4)
  else if r3 = (62 : Int32) then (fX10_compared_B34 zX10_whole zX10_both zX10_compared zX10_sum zX10_product zX10_one r3 M4)
  else some (true, M4))
  else some (false, M2)
theorem mX10_compared_b (l : Launch) (G : Gx) (zX10_whole : Mm → Option (Bool × Mm)) (zX10_both : Mm → Option (Bool × Mm)) (zX10_compared : Mm → Option (Bool × Mm)) (zX10_sum : Mm → Option (Bool × Mm)) (zX10_product : Mm → Option (Bool × Mm)) (zX10_one : Mm → Option (Bool × Mm)) (lev lev1 : Nat) (hlev : Nat.ble (lev1 + 1) lev = true) (hbase : 2 ≤ lev) (hzX10_whole : ∀ (M : Mm), Mt cQz l layM G lev1 yX10_whole cX10_whole 1 (some .boolean) [rf G 0] M (zX10_whole M)) (hzX10_both : ∀ (M : Mm), Mt cQz l layM G lev1 yX10_both cX10_both 1 (some .boolean) [rf G 0] M (zX10_both M)) (hzX10_compared : ∀ (M : Mm), Mt cQz l layM G lev1 yX10_compared cX10_compared 2 (some .boolean) [rf G 0] M (zX10_compared M)) (hzX10_sum : ∀ (M : Mm), Mt cQz l layM G lev1 yX10_sum cX10_sum 2 (some .boolean) [rf G 0] M (zX10_sum M)) (hzX10_product : ∀ (M : Mm), Mt cQz l layM G lev1 yX10_product cX10_product 2 (some .boolean) [rf G 0] M (zX10_product M)) (hzX10_one : ∀ (M : Mm), Mt cQz l layM G lev1 yX10_one cX10_one 4 (some .boolean) [rf G 0] M (zX10_one M)) (M : Mm) : Mt cQz l layM G lev yX10_compared cX10_compared 2 (some .boolean) [rf G 0] M (fX10_compared_b zX10_whole zX10_both zX10_compared zX10_sum zX10_product zX10_one M) := by
  refine Mt.of2 (own := RX10) (lv := [(0, rf G 0)]) rfl (by decide +kernel) rfl rfl ?_
  unfold fX10_compared_b
  refine s_aload_n 0 dX10_compared_0 rfl rfl ?_
  refine s_call_z (s_runV (ci := 10) (rest := []) rfl rfl (hzX10_sum M) ok_X10_sum k_X10_109 hlev rfl rfl rfl dX10_compared_1) fun r1 M2 => ?_
  refine s_ifneB (tgt := 9) dX10_compared_4 (by decide) ?_ ?_
  · refine s_aload_n 0 dX10_compared_9 rfl rfl ?_
    refine s_call_i (s_runV (ci := 10) (rest := []) rfl rfl (mX10_look l G M2) ok_X10_look k_X10_98 (ble_of hbase rfl) rfl rfl rfl dX10_compared_10) fun r3 M4 => ?_
    refine s_istore_n (lv' := [(1, .int r3), (0, rf G 0)]) dX10_compared_13 rfl rfl rfl ?_
    refine s_iload_n 0 dX10_compared_14 rfl rfl ?_
    refine s_bipush (v := 60) dX10_compared_15 cb_60 ?_
    refine s_icmpeq (tgt := 34) dX10_compared_17 (by decide) ?_ ?_
    · exact s_sub [0, 1] rfl (tX10_compared_B34 l G zX10_whole zX10_both zX10_compared zX10_sum zX10_product zX10_one lev lev1 hlev hbase hzX10_whole hzX10_both hzX10_compared hzX10_sum hzX10_product hzX10_one r3 M4)
    · refine s_iload_n 0 dX10_compared_20 rfl rfl ?_
      refine s_bipush (v := 61) dX10_compared_21 cb_61 ?_
      refine s_icmpeq (tgt := 34) dX10_compared_23 (by decide) ?_ ?_
      · exact s_sub [0, 1] rfl (tX10_compared_B34 l G zX10_whole zX10_both zX10_compared zX10_sum zX10_product zX10_one lev lev1 hlev hbase hzX10_whole hzX10_both hzX10_compared hzX10_sum hzX10_product hzX10_one r3 M4)
      · refine s_iload_n 0 dX10_compared_26 rfl rfl ?_
        refine s_bipush (v := 62) dX10_compared_27 cb_62 ?_
        refine s_icmpeq (tgt := 34) dX10_compared_29 (by decide) ?_ ?_
        · exact s_sub [0, 1] rfl (tX10_compared_B34 l G zX10_whole zX10_both zX10_compared zX10_sum zX10_product zX10_one lev lev1 hlev hbase hzX10_whole hzX10_both hzX10_compared hzX10_sum hzX10_product hzX10_one r3 M4)
        · refine s_iconst (v := 1) dX10_compared_32 ci_1 ?_
          exact s_zret1 rfl dX10_compared_33
  · refine s_iconst (v := 0) dX10_compared_7 ci_0 ?_
    exact s_zret0 rfl dX10_compared_8
theorem dX10_sum_0 : decode cX10_sum 0 = .ok (.aload_n 0, 1) := by decide +kernel
theorem dX10_sum_1 : decode cX10_sum 1 = .ok (.invokevirtual 112, 3) := by decide +kernel
theorem dX10_sum_4 : decode cX10_sum 4 = .ok (.ifCond .ne 5, 3) := by decide +kernel
theorem dX10_sum_7 : decode cX10_sum 7 = .ok (.iconst 0, 1) := by decide +kernel
theorem dX10_sum_8 : decode cX10_sum 8 = .ok (.ireturn, 1) := by decide +kernel
theorem dX10_sum_9 : decode cX10_sum 9 = .ok (.aload_n 0, 1) := by decide +kernel
theorem dX10_sum_10 : decode cX10_sum 10 = .ok (.invokevirtual 98, 3) := by decide +kernel
theorem dX10_sum_13 : decode cX10_sum 13 = .ok (.bipush 43, 2) := by decide +kernel
theorem dX10_sum_15 : decode cX10_sum 15 = .ok (.if_icmp .eq 12, 3) := by decide +kernel
theorem dX10_sum_18 : decode cX10_sum 18 = .ok (.aload_n 0, 1) := by decide +kernel
theorem dX10_sum_19 : decode cX10_sum 19 = .ok (.invokevirtual 98, 3) := by decide +kernel
theorem dX10_sum_22 : decode cX10_sum 22 = .ok (.bipush 45, 2) := by decide +kernel
theorem dX10_sum_24 : decode cX10_sum 24 = .ok (.if_icmp .ne 36, 3) := by decide +kernel
theorem dX10_sum_27 : decode cX10_sum 27 = .ok (.aload_n 0, 1) := by decide +kernel
theorem dX10_sum_28 : decode cX10_sum 28 = .ok (.invokevirtual 98, 3) := by decide +kernel
theorem dX10_sum_31 : decode cX10_sum 31 = .ok (.istore_n 1, 1) := by decide +kernel
theorem dX10_sum_32 : decode cX10_sum 32 = .ok (.aload_n 0, 1) := by decide +kernel
theorem dX10_sum_33 : decode cX10_sum 33 = .ok (.dup, 1) := by decide +kernel
theorem dX10_sum_34 : decode cX10_sum 34 = .ok (.getfield 84, 3) := by decide +kernel
theorem dX10_sum_37 : decode cX10_sum 37 = .ok (.iconst 1, 1) := by decide +kernel
theorem dX10_sum_38 : decode cX10_sum 38 = .ok (.iadd, 1) := by decide +kernel
theorem dX10_sum_39 : decode cX10_sum 39 = .ok (.putfield 84, 3) := by decide +kernel
theorem dX10_sum_42 : decode cX10_sum 42 = .ok (.aload_n 0, 1) := by decide +kernel
theorem dX10_sum_43 : decode cX10_sum 43 = .ok (.invokevirtual 112, 3) := by decide +kernel
theorem dX10_sum_46 : decode cX10_sum 46 = .ok (.ifCond .ne 5, 3) := by decide +kernel
theorem dX10_sum_49 : decode cX10_sum 49 = .ok (.iconst 0, 1) := by decide +kernel
theorem dX10_sum_50 : decode cX10_sum 50 = .ok (.ireturn, 1) := by decide +kernel
theorem dX10_sum_51 : decode cX10_sum 51 = .ok (.aload_n 0, 1) := by decide +kernel
theorem dX10_sum_52 : decode cX10_sum 52 = .ok (.iconst 3, 1) := by decide +kernel
theorem dX10_sum_53 : decode cX10_sum 53 = .ok (.iload_n 1, 1) := by decide +kernel
theorem dX10_sum_54 : decode cX10_sum 54 = .ok (.invokevirtual 102, 3) := by decide +kernel
theorem dX10_sum_57 : decode cX10_sum 57 = .ok (.goto (-48), 3) := by decide +kernel
theorem dX10_sum_60 : decode cX10_sum 60 = .ok (.iconst 1, 1) := by decide +kernel
theorem dX10_sum_61 : decode cX10_sum 61 = .ok (.ireturn, 1) := by decide +kernel
def fX10_sum_B49 (zX10_whole : Mm → Option (Bool × Mm)) (zX10_both : Mm → Option (Bool × Mm)) (zX10_compared : Mm → Option (Bool × Mm)) (zX10_sum : Mm → Option (Bool × Mm)) (zX10_product : Mm → Option (Bool × Mm)) (zX10_one : Mm → Option (Bool × Mm)) (M : Mm) : Option (Bool × Mm) :=
  some (false, M)
theorem tX10_sum_B49 (l : Launch) (G : Gx) (zX10_whole : Mm → Option (Bool × Mm)) (zX10_both : Mm → Option (Bool × Mm)) (zX10_compared : Mm → Option (Bool × Mm)) (zX10_sum : Mm → Option (Bool × Mm)) (zX10_product : Mm → Option (Bool × Mm)) (zX10_one : Mm → Option (Bool × Mm)) (lev lev1 : Nat) (hlev : Nat.ble (lev1 + 1) lev = true) (hbase : 2 ≤ lev) (hzX10_whole : ∀ (M : Mm), Mt cQz l layM G lev1 yX10_whole cX10_whole 1 (some .boolean) [rf G 0] M (zX10_whole M)) (hzX10_both : ∀ (M : Mm), Mt cQz l layM G lev1 yX10_both cX10_both 1 (some .boolean) [rf G 0] M (zX10_both M)) (hzX10_compared : ∀ (M : Mm), Mt cQz l layM G lev1 yX10_compared cX10_compared 2 (some .boolean) [rf G 0] M (zX10_compared M)) (hzX10_sum : ∀ (M : Mm), Mt cQz l layM G lev1 yX10_sum cX10_sum 2 (some .boolean) [rf G 0] M (zX10_sum M)) (hzX10_product : ∀ (M : Mm), Mt cQz l layM G lev1 yX10_product cX10_product 2 (some .boolean) [rf G 0] M (zX10_product M)) (hzX10_one : ∀ (M : Mm), Mt cQz l layM G lev1 yX10_one cX10_one 4 (some .boolean) [rf G 0] M (zX10_one M)) (M : Mm) : Sim cQz l layM G lev cX10_sum RX10 2 (some .boolean) 49 [] [] M (fX10_sum_B49 zX10_whole zX10_both zX10_compared zX10_sum zX10_product zX10_one M) := by
  unfold fX10_sum_B49
  refine s_iconst (v := 0) dX10_sum_49 ci_0 ?_
  exact s_zret0 rfl dX10_sum_50
def fX10_sum_B27 (zX10_whole : Mm → Option (Bool × Mm)) (zX10_both : Mm → Option (Bool × Mm)) (zX10_compared : Mm → Option (Bool × Mm)) (zX10_sum : Mm → Option (Bool × Mm)) (zX10_product : Mm → Option (Bool × Mm)) (zX10_one : Mm → Option (Bool × Mm)) (q9 : Mm → Option (Bool × Mm)) (M : Mm) : Option (Bool × Mm) :=
  bd (fX10_look M) fun r5 M6 =>
  lt (wr M6 0 5 ((M6 0 5) + (1 : Int32))) fun M7 =>
  bd (zX10_product M7) fun r8 M9 =>
  if r8 = true then (bd (fX10_lays (3 : Int32) r5 M9) fun r10 M11 =>
  q9 M11)
  else fX10_sum_B49 zX10_whole zX10_both zX10_compared zX10_sum zX10_product zX10_one M9
theorem tX10_sum_B27 (l : Launch) (G : Gx) (zX10_whole : Mm → Option (Bool × Mm)) (zX10_both : Mm → Option (Bool × Mm)) (zX10_compared : Mm → Option (Bool × Mm)) (zX10_sum : Mm → Option (Bool × Mm)) (zX10_product : Mm → Option (Bool × Mm)) (zX10_one : Mm → Option (Bool × Mm)) (lev lev1 : Nat) (hlev : Nat.ble (lev1 + 1) lev = true) (hbase : 2 ≤ lev) (hzX10_whole : ∀ (M : Mm), Mt cQz l layM G lev1 yX10_whole cX10_whole 1 (some .boolean) [rf G 0] M (zX10_whole M)) (hzX10_both : ∀ (M : Mm), Mt cQz l layM G lev1 yX10_both cX10_both 1 (some .boolean) [rf G 0] M (zX10_both M)) (hzX10_compared : ∀ (M : Mm), Mt cQz l layM G lev1 yX10_compared cX10_compared 2 (some .boolean) [rf G 0] M (zX10_compared M)) (hzX10_sum : ∀ (M : Mm), Mt cQz l layM G lev1 yX10_sum cX10_sum 2 (some .boolean) [rf G 0] M (zX10_sum M)) (hzX10_product : ∀ (M : Mm), Mt cQz l layM G lev1 yX10_product cX10_product 2 (some .boolean) [rf G 0] M (zX10_product M)) (hzX10_one : ∀ (M : Mm), Mt cQz l layM G lev1 yX10_one cX10_one 4 (some .boolean) [rf G 0] M (zX10_one M)) (q9 : Mm → Option (Bool × Mm)) (hq9 : ∀ (M : Mm), Sim cQz l layM G lev cX10_sum RX10 2 (some .boolean) 9 [(0, rf G 0)] [] M (q9 M)) (M : Mm) : Sim cQz l layM G lev cX10_sum RX10 2 (some .boolean) 27 [(0, rf G 0)] [] M (fX10_sum_B27 zX10_whole zX10_both zX10_compared zX10_sum zX10_product zX10_one q9 M) := by
  unfold fX10_sum_B27
  refine s_aload_n 0 dX10_sum_27 rfl rfl ?_
  refine s_call_i (s_runV (ci := 10) (rest := []) rfl rfl (mX10_look l G M) ok_X10_look k_X10_98 (ble_of hbase rfl) rfl rfl rfl dX10_sum_28) fun r5 M6 => ?_
  refine s_istore_n (lv' := [(1, .int r5), (0, rf G 0)]) dX10_sum_31 rfl rfl rfl ?_
  refine s_aload_n 1 dX10_sum_32 rfl rfl ?_
  refine s_dup dX10_sum_33 rfl ?_
  refine g_X10_84 rfl dX10_sum_34 ?_
  refine s_iconst (v := 1) dX10_sum_37 ci_1 ?_
  refine s_iadd dX10_sum_38 ?_
  refine p_X10_84 rfl dX10_sum_39 ?_
  refine s_letM fun M7 => ?_
  refine s_aload_n 1 dX10_sum_42 rfl rfl ?_
  refine s_call_z (s_runV (ci := 10) (rest := []) rfl rfl (hzX10_product M7) ok_X10_product k_X10_112 hlev rfl rfl rfl dX10_sum_43) fun r8 M9 => ?_
  refine s_ifneB (tgt := 51) dX10_sum_46 (by decide) ?_ ?_
  · refine s_aload_n 1 dX10_sum_51 rfl rfl ?_
    refine s_iconst (v := 3) dX10_sum_52 ci_3 ?_
    refine s_iload_n 0 dX10_sum_53 rfl rfl ?_
    refine s_call_v (s_runV (ci := 10) (rest := []) rfl rfl (mX10_lays l G (3 : Int32) r5 M9) ok_X10_lays k_X10_102 (ble_of hbase rfl) rfl rfl rfl dX10_sum_54) fun r10 M11 => ?_
    refine s_goto (tgt := 9) dX10_sum_57 (by decide) ?_
    exact s_sub [1] rfl (hq9 M11)
  · exact s_sub [] rfl (tX10_sum_B49 l G zX10_whole zX10_both zX10_compared zX10_sum zX10_product zX10_one lev lev1 hlev hbase hzX10_whole hzX10_both hzX10_compared hzX10_sum hzX10_product hzX10_one M9)
def fX10_sum_B60 (zX10_whole : Mm → Option (Bool × Mm)) (zX10_both : Mm → Option (Bool × Mm)) (zX10_compared : Mm → Option (Bool × Mm)) (zX10_sum : Mm → Option (Bool × Mm)) (zX10_product : Mm → Option (Bool × Mm)) (zX10_one : Mm → Option (Bool × Mm)) (M : Mm) : Option (Bool × Mm) :=
  some (true, M)
theorem tX10_sum_B60 (l : Launch) (G : Gx) (zX10_whole : Mm → Option (Bool × Mm)) (zX10_both : Mm → Option (Bool × Mm)) (zX10_compared : Mm → Option (Bool × Mm)) (zX10_sum : Mm → Option (Bool × Mm)) (zX10_product : Mm → Option (Bool × Mm)) (zX10_one : Mm → Option (Bool × Mm)) (lev lev1 : Nat) (hlev : Nat.ble (lev1 + 1) lev = true) (hbase : 2 ≤ lev) (hzX10_whole : ∀ (M : Mm), Mt cQz l layM G lev1 yX10_whole cX10_whole 1 (some .boolean) [rf G 0] M (zX10_whole M)) (hzX10_both : ∀ (M : Mm), Mt cQz l layM G lev1 yX10_both cX10_both 1 (some .boolean) [rf G 0] M (zX10_both M)) (hzX10_compared : ∀ (M : Mm), Mt cQz l layM G lev1 yX10_compared cX10_compared 2 (some .boolean) [rf G 0] M (zX10_compared M)) (hzX10_sum : ∀ (M : Mm), Mt cQz l layM G lev1 yX10_sum cX10_sum 2 (some .boolean) [rf G 0] M (zX10_sum M)) (hzX10_product : ∀ (M : Mm), Mt cQz l layM G lev1 yX10_product cX10_product 2 (some .boolean) [rf G 0] M (zX10_product M)) (hzX10_one : ∀ (M : Mm), Mt cQz l layM G lev1 yX10_one cX10_one 4 (some .boolean) [rf G 0] M (zX10_one M)) (M : Mm) : Sim cQz l layM G lev cX10_sum RX10 2 (some .boolean) 60 [] [] M (fX10_sum_B60 zX10_whole zX10_both zX10_compared zX10_sum zX10_product zX10_one M) := by
  unfold fX10_sum_B60
  refine s_iconst (v := 1) dX10_sum_60 ci_1 ?_
  exact s_zret1 rfl dX10_sum_61
def fX10_sum_L9b (zX10_whole : Mm → Option (Bool × Mm)) (zX10_both : Mm → Option (Bool × Mm)) (zX10_compared : Mm → Option (Bool × Mm)) (zX10_sum : Mm → Option (Bool × Mm)) (zX10_product : Mm → Option (Bool × Mm)) (zX10_one : Mm → Option (Bool × Mm)) (q9 : Mm → Option (Bool × Mm)) (M : Mm) : Option (Bool × Mm) :=
  bd (fX10_look M) fun r3 M4 =>
  if r3 = (43 : Int32) then (fX10_sum_B27 zX10_whole zX10_both zX10_compared zX10_sum zX10_product zX10_one q9 M4)
  else bd (fX10_look M4) fun r12 M13 =>
  if r12 = (45 : Int32) then (fX10_sum_B27 zX10_whole zX10_both zX10_compared zX10_sum zX10_product zX10_one q9 M13)
  else fX10_sum_B60 zX10_whole zX10_both zX10_compared zX10_sum zX10_product zX10_one M13
def fX10_sum_L9 (zX10_whole : Mm → Option (Bool × Mm)) (zX10_both : Mm → Option (Bool × Mm)) (zX10_compared : Mm → Option (Bool × Mm)) (zX10_sum : Mm → Option (Bool × Mm)) (zX10_product : Mm → Option (Bool × Mm)) (zX10_one : Mm → Option (Bool × Mm)) : Nat → Mm → Option (Bool × Mm)
  | 0 => fun _ => none
  | n + 1 => fX10_sum_L9b zX10_whole zX10_both zX10_compared zX10_sum zX10_product zX10_one (fX10_sum_L9 zX10_whole zX10_both zX10_compared zX10_sum zX10_product zX10_one n)
theorem tX10_sum_L9b (l : Launch) (G : Gx) (zX10_whole : Mm → Option (Bool × Mm)) (zX10_both : Mm → Option (Bool × Mm)) (zX10_compared : Mm → Option (Bool × Mm)) (zX10_sum : Mm → Option (Bool × Mm)) (zX10_product : Mm → Option (Bool × Mm)) (zX10_one : Mm → Option (Bool × Mm)) (lev lev1 : Nat) (hlev : Nat.ble (lev1 + 1) lev = true) (hbase : 2 ≤ lev) (hzX10_whole : ∀ (M : Mm), Mt cQz l layM G lev1 yX10_whole cX10_whole 1 (some .boolean) [rf G 0] M (zX10_whole M)) (hzX10_both : ∀ (M : Mm), Mt cQz l layM G lev1 yX10_both cX10_both 1 (some .boolean) [rf G 0] M (zX10_both M)) (hzX10_compared : ∀ (M : Mm), Mt cQz l layM G lev1 yX10_compared cX10_compared 2 (some .boolean) [rf G 0] M (zX10_compared M)) (hzX10_sum : ∀ (M : Mm), Mt cQz l layM G lev1 yX10_sum cX10_sum 2 (some .boolean) [rf G 0] M (zX10_sum M)) (hzX10_product : ∀ (M : Mm), Mt cQz l layM G lev1 yX10_product cX10_product 2 (some .boolean) [rf G 0] M (zX10_product M)) (hzX10_one : ∀ (M : Mm), Mt cQz l layM G lev1 yX10_one cX10_one 4 (some .boolean) [rf G 0] M (zX10_one M)) (q9 : Mm → Option (Bool × Mm)) (hq9 : ∀ (M : Mm), Sim cQz l layM G lev cX10_sum RX10 2 (some .boolean) 9 [(0, rf G 0)] [] M (q9 M)) (M : Mm) : Sim cQz l layM G lev cX10_sum RX10 2 (some .boolean) 9 [(0, rf G 0)] [] M (fX10_sum_L9b zX10_whole zX10_both zX10_compared zX10_sum zX10_product zX10_one q9 M) := by
  unfold fX10_sum_L9b
  refine s_aload_n 0 dX10_sum_9 rfl rfl ?_
  refine s_call_i (s_runV (ci := 10) (rest := []) rfl rfl (mX10_look l G M) ok_X10_look k_X10_98 (ble_of hbase rfl) rfl rfl rfl dX10_sum_10) fun r3 M4 => ?_
  refine s_bipush (v := 43) dX10_sum_13 cb_43 ?_
  refine s_icmpeq (tgt := 27) dX10_sum_15 (by decide) ?_ ?_
  · exact s_sub [0] rfl (tX10_sum_B27 l G zX10_whole zX10_both zX10_compared zX10_sum zX10_product zX10_one lev lev1 hlev hbase hzX10_whole hzX10_both hzX10_compared hzX10_sum hzX10_product hzX10_one q9 hq9 M4)
  · refine s_aload_n 0 dX10_sum_18 rfl rfl ?_
    refine s_call_i (s_runV (ci := 10) (rest := []) rfl rfl (mX10_look l G M4) ok_X10_look k_X10_98 (ble_of hbase rfl) rfl rfl rfl dX10_sum_19) fun r12 M13 => ?_
    refine s_bipush (v := 45) dX10_sum_22 cb_45 ?_
    refine s_icmpne (tgt := 60) dX10_sum_24 (by decide) ?_ ?_
    · exact s_sub [] rfl (tX10_sum_B60 l G zX10_whole zX10_both zX10_compared zX10_sum zX10_product zX10_one lev lev1 hlev hbase hzX10_whole hzX10_both hzX10_compared hzX10_sum hzX10_product hzX10_one M13)
    · exact s_sub [0] rfl (tX10_sum_B27 l G zX10_whole zX10_both zX10_compared zX10_sum zX10_product zX10_one lev lev1 hlev hbase hzX10_whole hzX10_both hzX10_compared hzX10_sum hzX10_product hzX10_one q9 hq9 M13)
theorem tX10_sum_L9 (l : Launch) (G : Gx) (zX10_whole : Mm → Option (Bool × Mm)) (zX10_both : Mm → Option (Bool × Mm)) (zX10_compared : Mm → Option (Bool × Mm)) (zX10_sum : Mm → Option (Bool × Mm)) (zX10_product : Mm → Option (Bool × Mm)) (zX10_one : Mm → Option (Bool × Mm)) (lev lev1 : Nat) (hlev : Nat.ble (lev1 + 1) lev = true) (hbase : 2 ≤ lev) (hzX10_whole : ∀ (M : Mm), Mt cQz l layM G lev1 yX10_whole cX10_whole 1 (some .boolean) [rf G 0] M (zX10_whole M)) (hzX10_both : ∀ (M : Mm), Mt cQz l layM G lev1 yX10_both cX10_both 1 (some .boolean) [rf G 0] M (zX10_both M)) (hzX10_compared : ∀ (M : Mm), Mt cQz l layM G lev1 yX10_compared cX10_compared 2 (some .boolean) [rf G 0] M (zX10_compared M)) (hzX10_sum : ∀ (M : Mm), Mt cQz l layM G lev1 yX10_sum cX10_sum 2 (some .boolean) [rf G 0] M (zX10_sum M)) (hzX10_product : ∀ (M : Mm), Mt cQz l layM G lev1 yX10_product cX10_product 2 (some .boolean) [rf G 0] M (zX10_product M)) (hzX10_one : ∀ (M : Mm), Mt cQz l layM G lev1 yX10_one cX10_one 4 (some .boolean) [rf G 0] M (zX10_one M)) : ∀ (n : Nat) (M : Mm), Sim cQz l layM G lev cX10_sum RX10 2 (some .boolean) 9 [(0, rf G 0)] [] M (fX10_sum_L9 zX10_whole zX10_both zX10_compared zX10_sum zX10_product zX10_one n M)
  | 0, _ => s_none
  | n + 1, M => tX10_sum_L9b l G zX10_whole zX10_both zX10_compared zX10_sum zX10_product zX10_one lev lev1 hlev hbase hzX10_whole hzX10_both hzX10_compared hzX10_sum hzX10_product hzX10_one _ (tX10_sum_L9 l G zX10_whole zX10_both zX10_compared zX10_sum zX10_product zX10_one lev lev1 hlev hbase hzX10_whole hzX10_both hzX10_compared hzX10_sum hzX10_product hzX10_one n) M
def fX10_sum_b (zX10_whole : Mm → Option (Bool × Mm)) (zX10_both : Mm → Option (Bool × Mm)) (zX10_compared : Mm → Option (Bool × Mm)) (zX10_sum : Mm → Option (Bool × Mm)) (zX10_product : Mm → Option (Bool × Mm)) (zX10_one : Mm → Option (Bool × Mm)) (M : Mm) : Option (Bool × Mm) :=
  bd (zX10_product M) fun r1 M2 =>
  if r1 = true then (fX10_sum_L9 zX10_whole zX10_both zX10_compared zX10_sum zX10_product zX10_one FU M2)
  else some (false, M2)
theorem mX10_sum_b (l : Launch) (G : Gx) (zX10_whole : Mm → Option (Bool × Mm)) (zX10_both : Mm → Option (Bool × Mm)) (zX10_compared : Mm → Option (Bool × Mm)) (zX10_sum : Mm → Option (Bool × Mm)) (zX10_product : Mm → Option (Bool × Mm)) (zX10_one : Mm → Option (Bool × Mm)) (lev lev1 : Nat) (hlev : Nat.ble (lev1 + 1) lev = true) (hbase : 2 ≤ lev) (hzX10_whole : ∀ (M : Mm), Mt cQz l layM G lev1 yX10_whole cX10_whole 1 (some .boolean) [rf G 0] M (zX10_whole M)) (hzX10_both : ∀ (M : Mm), Mt cQz l layM G lev1 yX10_both cX10_both 1 (some .boolean) [rf G 0] M (zX10_both M)) (hzX10_compared : ∀ (M : Mm), Mt cQz l layM G lev1 yX10_compared cX10_compared 2 (some .boolean) [rf G 0] M (zX10_compared M)) (hzX10_sum : ∀ (M : Mm), Mt cQz l layM G lev1 yX10_sum cX10_sum 2 (some .boolean) [rf G 0] M (zX10_sum M)) (hzX10_product : ∀ (M : Mm), Mt cQz l layM G lev1 yX10_product cX10_product 2 (some .boolean) [rf G 0] M (zX10_product M)) (hzX10_one : ∀ (M : Mm), Mt cQz l layM G lev1 yX10_one cX10_one 4 (some .boolean) [rf G 0] M (zX10_one M)) (M : Mm) : Mt cQz l layM G lev yX10_sum cX10_sum 2 (some .boolean) [rf G 0] M (fX10_sum_b zX10_whole zX10_both zX10_compared zX10_sum zX10_product zX10_one M) := by
  refine Mt.of2 (own := RX10) (lv := [(0, rf G 0)]) rfl (by decide +kernel) rfl rfl ?_
  unfold fX10_sum_b
  refine s_aload_n 0 dX10_sum_0 rfl rfl ?_
  refine s_call_z (s_runV (ci := 10) (rest := []) rfl rfl (hzX10_product M) ok_X10_product k_X10_112 hlev rfl rfl rfl dX10_sum_1) fun r1 M2 => ?_
  refine s_ifneB (tgt := 9) dX10_sum_4 (by decide) ?_ ?_
  · exact s_sub [0] rfl (tX10_sum_L9 l G zX10_whole zX10_both zX10_compared zX10_sum zX10_product zX10_one lev lev1 hlev hbase hzX10_whole hzX10_both hzX10_compared hzX10_sum hzX10_product hzX10_one FU M2)
  · refine s_iconst (v := 0) dX10_sum_7 ci_0 ?_
    exact s_zret0 rfl dX10_sum_8
theorem dX10_product_0 : decode cX10_product 0 = .ok (.aload_n 0, 1) := by decide +kernel
theorem dX10_product_1 : decode cX10_product 1 = .ok (.invokevirtual 115, 3) := by decide +kernel
theorem dX10_product_4 : decode cX10_product 4 = .ok (.ifCond .ne 5, 3) := by decide +kernel
theorem dX10_product_7 : decode cX10_product 7 = .ok (.iconst 0, 1) := by decide +kernel
theorem dX10_product_8 : decode cX10_product 8 = .ok (.ireturn, 1) := by decide +kernel
theorem dX10_product_9 : decode cX10_product 9 = .ok (.aload_n 0, 1) := by decide +kernel
theorem dX10_product_10 : decode cX10_product 10 = .ok (.invokevirtual 98, 3) := by decide +kernel
theorem dX10_product_13 : decode cX10_product 13 = .ok (.bipush 42, 2) := by decide +kernel
theorem dX10_product_15 : decode cX10_product 15 = .ok (.if_icmp .eq 21, 3) := by decide +kernel
theorem dX10_product_18 : decode cX10_product 18 = .ok (.aload_n 0, 1) := by decide +kernel
theorem dX10_product_19 : decode cX10_product 19 = .ok (.invokevirtual 98, 3) := by decide +kernel
theorem dX10_product_22 : decode cX10_product 22 = .ok (.bipush 47, 2) := by decide +kernel
theorem dX10_product_24 : decode cX10_product 24 = .ok (.if_icmp .eq 12, 3) := by decide +kernel
theorem dX10_product_27 : decode cX10_product 27 = .ok (.aload_n 0, 1) := by decide +kernel
theorem dX10_product_28 : decode cX10_product 28 = .ok (.invokevirtual 98, 3) := by decide +kernel
theorem dX10_product_31 : decode cX10_product 31 = .ok (.bipush 37, 2) := by decide +kernel
theorem dX10_product_33 : decode cX10_product 33 = .ok (.if_icmp .ne 36, 3) := by decide +kernel
theorem dX10_product_36 : decode cX10_product 36 = .ok (.aload_n 0, 1) := by decide +kernel
theorem dX10_product_37 : decode cX10_product 37 = .ok (.invokevirtual 98, 3) := by decide +kernel
theorem dX10_product_40 : decode cX10_product 40 = .ok (.istore_n 1, 1) := by decide +kernel
theorem dX10_product_41 : decode cX10_product 41 = .ok (.aload_n 0, 1) := by decide +kernel
theorem dX10_product_42 : decode cX10_product 42 = .ok (.dup, 1) := by decide +kernel
theorem dX10_product_43 : decode cX10_product 43 = .ok (.getfield 84, 3) := by decide +kernel
theorem dX10_product_46 : decode cX10_product 46 = .ok (.iconst 1, 1) := by decide +kernel
theorem dX10_product_47 : decode cX10_product 47 = .ok (.iadd, 1) := by decide +kernel
theorem dX10_product_48 : decode cX10_product 48 = .ok (.putfield 84, 3) := by decide +kernel
theorem dX10_product_51 : decode cX10_product 51 = .ok (.aload_n 0, 1) := by decide +kernel
theorem dX10_product_52 : decode cX10_product 52 = .ok (.invokevirtual 115, 3) := by decide +kernel
theorem dX10_product_55 : decode cX10_product 55 = .ok (.ifCond .ne 5, 3) := by decide +kernel
theorem dX10_product_58 : decode cX10_product 58 = .ok (.iconst 0, 1) := by decide +kernel
theorem dX10_product_59 : decode cX10_product 59 = .ok (.ireturn, 1) := by decide +kernel
theorem dX10_product_60 : decode cX10_product 60 = .ok (.aload_n 0, 1) := by decide +kernel
theorem dX10_product_61 : decode cX10_product 61 = .ok (.iconst 3, 1) := by decide +kernel
theorem dX10_product_62 : decode cX10_product 62 = .ok (.iload_n 1, 1) := by decide +kernel
theorem dX10_product_63 : decode cX10_product 63 = .ok (.invokevirtual 102, 3) := by decide +kernel
theorem dX10_product_66 : decode cX10_product 66 = .ok (.goto (-57), 3) := by decide +kernel
theorem dX10_product_69 : decode cX10_product 69 = .ok (.iconst 1, 1) := by decide +kernel
theorem dX10_product_70 : decode cX10_product 70 = .ok (.ireturn, 1) := by decide +kernel
def fX10_product_B58 (zX10_whole : Mm → Option (Bool × Mm)) (zX10_both : Mm → Option (Bool × Mm)) (zX10_compared : Mm → Option (Bool × Mm)) (zX10_sum : Mm → Option (Bool × Mm)) (zX10_product : Mm → Option (Bool × Mm)) (zX10_one : Mm → Option (Bool × Mm)) (M : Mm) : Option (Bool × Mm) :=
  some (false, M)
theorem tX10_product_B58 (l : Launch) (G : Gx) (zX10_whole : Mm → Option (Bool × Mm)) (zX10_both : Mm → Option (Bool × Mm)) (zX10_compared : Mm → Option (Bool × Mm)) (zX10_sum : Mm → Option (Bool × Mm)) (zX10_product : Mm → Option (Bool × Mm)) (zX10_one : Mm → Option (Bool × Mm)) (lev lev1 : Nat) (hlev : Nat.ble (lev1 + 1) lev = true) (hbase : 2 ≤ lev) (hzX10_whole : ∀ (M : Mm), Mt cQz l layM G lev1 yX10_whole cX10_whole 1 (some .boolean) [rf G 0] M (zX10_whole M)) (hzX10_both : ∀ (M : Mm), Mt cQz l layM G lev1 yX10_both cX10_both 1 (some .boolean) [rf G 0] M (zX10_both M)) (hzX10_compared : ∀ (M : Mm), Mt cQz l layM G lev1 yX10_compared cX10_compared 2 (some .boolean) [rf G 0] M (zX10_compared M)) (hzX10_sum : ∀ (M : Mm), Mt cQz l layM G lev1 yX10_sum cX10_sum 2 (some .boolean) [rf G 0] M (zX10_sum M)) (hzX10_product : ∀ (M : Mm), Mt cQz l layM G lev1 yX10_product cX10_product 2 (some .boolean) [rf G 0] M (zX10_product M)) (hzX10_one : ∀ (M : Mm), Mt cQz l layM G lev1 yX10_one cX10_one 4 (some .boolean) [rf G 0] M (zX10_one M)) (M : Mm) : Sim cQz l layM G lev cX10_product RX10 2 (some .boolean) 58 [] [] M (fX10_product_B58 zX10_whole zX10_both zX10_compared zX10_sum zX10_product zX10_one M) := by
  unfold fX10_product_B58
  refine s_iconst (v := 0) dX10_product_58 ci_0 ?_
  exact s_zret0 rfl dX10_product_59
def fX10_product_B36 (zX10_whole : Mm → Option (Bool × Mm)) (zX10_both : Mm → Option (Bool × Mm)) (zX10_compared : Mm → Option (Bool × Mm)) (zX10_sum : Mm → Option (Bool × Mm)) (zX10_product : Mm → Option (Bool × Mm)) (zX10_one : Mm → Option (Bool × Mm)) (q9 : Mm → Option (Bool × Mm)) (M : Mm) : Option (Bool × Mm) :=
  bd (fX10_look M) fun r5 M6 =>
  lt (wr M6 0 5 ((M6 0 5) + (1 : Int32))) fun M7 =>
  bd (zX10_one M7) fun r8 M9 =>
  if r8 = true then (bd (fX10_lays (3 : Int32) r5 M9) fun r10 M11 =>
  q9 M11)
  else fX10_product_B58 zX10_whole zX10_both zX10_compared zX10_sum zX10_product zX10_one M9
theorem tX10_product_B36 (l : Launch) (G : Gx) (zX10_whole : Mm → Option (Bool × Mm)) (zX10_both : Mm → Option (Bool × Mm)) (zX10_compared : Mm → Option (Bool × Mm)) (zX10_sum : Mm → Option (Bool × Mm)) (zX10_product : Mm → Option (Bool × Mm)) (zX10_one : Mm → Option (Bool × Mm)) (lev lev1 : Nat) (hlev : Nat.ble (lev1 + 1) lev = true) (hbase : 2 ≤ lev) (hzX10_whole : ∀ (M : Mm), Mt cQz l layM G lev1 yX10_whole cX10_whole 1 (some .boolean) [rf G 0] M (zX10_whole M)) (hzX10_both : ∀ (M : Mm), Mt cQz l layM G lev1 yX10_both cX10_both 1 (some .boolean) [rf G 0] M (zX10_both M)) (hzX10_compared : ∀ (M : Mm), Mt cQz l layM G lev1 yX10_compared cX10_compared 2 (some .boolean) [rf G 0] M (zX10_compared M)) (hzX10_sum : ∀ (M : Mm), Mt cQz l layM G lev1 yX10_sum cX10_sum 2 (some .boolean) [rf G 0] M (zX10_sum M)) (hzX10_product : ∀ (M : Mm), Mt cQz l layM G lev1 yX10_product cX10_product 2 (some .boolean) [rf G 0] M (zX10_product M)) (hzX10_one : ∀ (M : Mm), Mt cQz l layM G lev1 yX10_one cX10_one 4 (some .boolean) [rf G 0] M (zX10_one M)) (q9 : Mm → Option (Bool × Mm)) (hq9 : ∀ (M : Mm), Sim cQz l layM G lev cX10_product RX10 2 (some .boolean) 9 [(0, rf G 0)] [] M (q9 M)) (M : Mm) : Sim cQz l layM G lev cX10_product RX10 2 (some .boolean) 36 [(0, rf G 0)] [] M (fX10_product_B36 zX10_whole zX10_both zX10_compared zX10_sum zX10_product zX10_one q9 M) := by
  unfold fX10_product_B36
  refine s_aload_n 0 dX10_product_36 rfl rfl ?_
  refine s_call_i (s_runV (ci := 10) (rest := []) rfl rfl (mX10_look l G M) ok_X10_look k_X10_98 (ble_of hbase rfl) rfl rfl rfl dX10_product_37) fun r5 M6 => ?_
  refine s_istore_n (lv' := [(1, .int r5), (0, rf G 0)]) dX10_product_40 rfl rfl rfl ?_
  refine s_aload_n 1 dX10_product_41 rfl rfl ?_
  refine s_dup dX10_product_42 rfl ?_
  refine g_X10_84 rfl dX10_product_43 ?_
  refine s_iconst (v := 1) dX10_product_46 ci_1 ?_
  refine s_iadd dX10_product_47 ?_
  refine p_X10_84 rfl dX10_product_48 ?_
  refine s_letM fun M7 => ?_
  refine s_aload_n 1 dX10_product_51 rfl rfl ?_
  refine s_call_z (s_runV (ci := 10) (rest := []) rfl rfl (hzX10_one M7) ok_X10_one k_X10_115 hlev rfl rfl rfl dX10_product_52) fun r8 M9 => ?_
  refine s_ifneB (tgt := 60) dX10_product_55 (by decide) ?_ ?_
  · refine s_aload_n 1 dX10_product_60 rfl rfl ?_
    refine s_iconst (v := 3) dX10_product_61 ci_3 ?_
    refine s_iload_n 0 dX10_product_62 rfl rfl ?_
    refine s_call_v (s_runV (ci := 10) (rest := []) rfl rfl (mX10_lays l G (3 : Int32) r5 M9) ok_X10_lays k_X10_102 (ble_of hbase rfl) rfl rfl rfl dX10_product_63) fun r10 M11 => ?_
    refine s_goto (tgt := 9) dX10_product_66 (by decide) ?_
    exact s_sub [1] rfl (hq9 M11)
  · exact s_sub [] rfl (tX10_product_B58 l G zX10_whole zX10_both zX10_compared zX10_sum zX10_product zX10_one lev lev1 hlev hbase hzX10_whole hzX10_both hzX10_compared hzX10_sum hzX10_product hzX10_one M9)
def fX10_product_B69 (zX10_whole : Mm → Option (Bool × Mm)) (zX10_both : Mm → Option (Bool × Mm)) (zX10_compared : Mm → Option (Bool × Mm)) (zX10_sum : Mm → Option (Bool × Mm)) (zX10_product : Mm → Option (Bool × Mm)) (zX10_one : Mm → Option (Bool × Mm)) (M : Mm) : Option (Bool × Mm) :=
  some (true, M)
theorem tX10_product_B69 (l : Launch) (G : Gx) (zX10_whole : Mm → Option (Bool × Mm)) (zX10_both : Mm → Option (Bool × Mm)) (zX10_compared : Mm → Option (Bool × Mm)) (zX10_sum : Mm → Option (Bool × Mm)) (zX10_product : Mm → Option (Bool × Mm)) (zX10_one : Mm → Option (Bool × Mm)) (lev lev1 : Nat) (hlev : Nat.ble (lev1 + 1) lev = true) (hbase : 2 ≤ lev) (hzX10_whole : ∀ (M : Mm), Mt cQz l layM G lev1 yX10_whole cX10_whole 1 (some .boolean) [rf G 0] M (zX10_whole M)) (hzX10_both : ∀ (M : Mm), Mt cQz l layM G lev1 yX10_both cX10_both 1 (some .boolean) [rf G 0] M (zX10_both M)) (hzX10_compared : ∀ (M : Mm), Mt cQz l layM G lev1 yX10_compared cX10_compared 2 (some .boolean) [rf G 0] M (zX10_compared M)) (hzX10_sum : ∀ (M : Mm), Mt cQz l layM G lev1 yX10_sum cX10_sum 2 (some .boolean) [rf G 0] M (zX10_sum M)) (hzX10_product : ∀ (M : Mm), Mt cQz l layM G lev1 yX10_product cX10_product 2 (some .boolean) [rf G 0] M (zX10_product M)) (hzX10_one : ∀ (M : Mm), Mt cQz l layM G lev1 yX10_one cX10_one 4 (some .boolean) [rf G 0] M (zX10_one M)) (M : Mm) : Sim cQz l layM G lev cX10_product RX10 2 (some .boolean) 69 [] [] M (fX10_product_B69 zX10_whole zX10_both zX10_compared zX10_sum zX10_product zX10_one M) := by
  unfold fX10_product_B69
  refine s_iconst (v := 1) dX10_product_69 ci_1 ?_
  exact s_zret1 rfl dX10_product_70
def fX10_product_L9b (zX10_whole : Mm → Option (Bool × Mm)) (zX10_both : Mm → Option (Bool × Mm)) (zX10_compared : Mm → Option (Bool × Mm)) (zX10_sum : Mm → Option (Bool × Mm)) (zX10_product : Mm → Option (Bool × Mm)) (zX10_one : Mm → Option (Bool × Mm)) (q9 : Mm → Option (Bool × Mm)) (M : Mm) : Option (Bool × Mm) :=
  bd (fX10_look M) fun r3 M4 =>
  if r3 = (42 : Int32) then (fX10_product_B36 zX10_whole zX10_both zX10_compared zX10_sum zX10_product zX10_one q9 M4)
  else bd (fX10_look M4) fun r12 M13 =>
  if r12 = (47 : Int32) then (fX10_product_B36 zX10_whole zX10_both zX10_compared zX10_sum zX10_product zX10_one q9 M13)
  else bd (fX10_look M13) fun r14 M15 =>
  if r14 = (37 : Int32) then (fX10_product_B36 zX10_whole zX10_both zX10_compared zX10_sum zX10_product zX10_one q9 M15)
  else fX10_product_B69 zX10_whole zX10_both zX10_compared zX10_sum zX10_product zX10_one M15
def fX10_product_L9 (zX10_whole : Mm → Option (Bool × Mm)) (zX10_both : Mm → Option (Bool × Mm)) (zX10_compared : Mm → Option (Bool × Mm)) (zX10_sum : Mm → Option (Bool × Mm)) (zX10_product : Mm → Option (Bool × Mm)) (zX10_one : Mm → Option (Bool × Mm)) : Nat → Mm → Option (Bool × Mm)
  | 0 => fun _ => none
  | n + 1 => fX10_product_L9b zX10_whole zX10_both zX10_compared zX10_sum zX10_product zX10_one (fX10_product_L9 zX10_whole zX10_both zX10_compared zX10_sum zX10_product zX10_one n)
theorem tX10_product_L9b (l : Launch) (G : Gx) (zX10_whole : Mm → Option (Bool × Mm)) (zX10_both : Mm → Option (Bool × Mm)) (zX10_compared : Mm → Option (Bool × Mm)) (zX10_sum : Mm → Option (Bool × Mm)) (zX10_product : Mm → Option (Bool × Mm)) (zX10_one : Mm → Option (Bool × Mm)) (lev lev1 : Nat) (hlev : Nat.ble (lev1 + 1) lev = true) (hbase : 2 ≤ lev) (hzX10_whole : ∀ (M : Mm), Mt cQz l layM G lev1 yX10_whole cX10_whole 1 (some .boolean) [rf G 0] M (zX10_whole M)) (hzX10_both : ∀ (M : Mm), Mt cQz l layM G lev1 yX10_both cX10_both 1 (some .boolean) [rf G 0] M (zX10_both M)) (hzX10_compared : ∀ (M : Mm), Mt cQz l layM G lev1 yX10_compared cX10_compared 2 (some .boolean) [rf G 0] M (zX10_compared M)) (hzX10_sum : ∀ (M : Mm), Mt cQz l layM G lev1 yX10_sum cX10_sum 2 (some .boolean) [rf G 0] M (zX10_sum M)) (hzX10_product : ∀ (M : Mm), Mt cQz l layM G lev1 yX10_product cX10_product 2 (some .boolean) [rf G 0] M (zX10_product M)) (hzX10_one : ∀ (M : Mm), Mt cQz l layM G lev1 yX10_one cX10_one 4 (some .boolean) [rf G 0] M (zX10_one M)) (q9 : Mm → Option (Bool × Mm)) (hq9 : ∀ (M : Mm), Sim cQz l layM G lev cX10_product RX10 2 (some .boolean) 9 [(0, rf G 0)] [] M (q9 M)) (M : Mm) : Sim cQz l layM G lev cX10_product RX10 2 (some .boolean) 9 [(0, rf G 0)] [] M (fX10_product_L9b zX10_whole zX10_both zX10_compared zX10_sum zX10_product zX10_one q9 M) := by
  unfold fX10_product_L9b
  refine s_aload_n 0 dX10_product_9 rfl rfl ?_
  refine s_call_i (s_runV (ci := 10) (rest := []) rfl rfl (mX10_look l G M) ok_X10_look k_X10_98 (ble_of hbase rfl) rfl rfl rfl dX10_product_10) fun r3 M4 => ?_
  refine s_bipush (v := 42) dX10_product_13 cb_42 ?_
  refine s_icmpeq (tgt := 36) dX10_product_15 (by decide) ?_ ?_
  · exact s_sub [0] rfl (tX10_product_B36 l G zX10_whole zX10_both zX10_compared zX10_sum zX10_product zX10_one lev lev1 hlev hbase hzX10_whole hzX10_both hzX10_compared hzX10_sum hzX10_product hzX10_one q9 hq9 M4)
  · refine s_aload_n 0 dX10_product_18 rfl rfl ?_
    refine s_call_i (s_runV (ci := 10) (rest := []) rfl rfl (mX10_look l G M4) ok_X10_look k_X10_98 (ble_of hbase rfl) rfl rfl rfl dX10_product_19) fun r12 M13 => ?_
    refine s_bipush (v := 47) dX10_product_22 cb_47 ?_
    refine s_icmpeq (tgt := 36) dX10_product_24 (by decide) ?_ ?_
    · exact s_sub [0] rfl (tX10_product_B36 l G zX10_whole zX10_both zX10_compared zX10_sum zX10_product zX10_one lev lev1 hlev hbase hzX10_whole hzX10_both hzX10_compared hzX10_sum hzX10_product hzX10_one q9 hq9 M13)
    · refine s_aload_n 0 dX10_product_27 rfl rfl ?_
      refine s_call_i (s_runV (ci := 10) (rest := []) rfl rfl (mX10_look l G M13) ok_X10_look k_X10_98 (ble_of hbase rfl) rfl rfl rfl dX10_product_28) fun r14 M15 => ?_
      refine s_bipush (v := 37) dX10_product_31 cb_37 ?_
      refine s_icmpne (tgt := 69) dX10_product_33 (by decide) ?_ ?_
      · exact s_sub [] rfl (tX10_product_B69 l G zX10_whole zX10_both zX10_compared zX10_sum zX10_product zX10_one lev lev1 hlev hbase hzX10_whole hzX10_both hzX10_compared hzX10_sum hzX10_product hzX10_one M15)
      · exact s_sub [0] rfl (tX10_product_B36 l G zX10_whole zX10_both zX10_compared zX10_sum zX10_product zX10_one lev lev1 hlev hbase hzX10_whole hzX10_both hzX10_compared hzX10_sum hzX10_product hzX10_one q9 hq9 M15)
theorem tX10_product_L9 (l : Launch) (G : Gx) (zX10_whole : Mm → Option (Bool × Mm)) (zX10_both : Mm → Option (Bool × Mm)) (zX10_compared : Mm → Option (Bool × Mm)) (zX10_sum : Mm → Option (Bool × Mm)) (zX10_product : Mm → Option (Bool × Mm)) (zX10_one : Mm → Option (Bool × Mm)) (lev lev1 : Nat) (hlev : Nat.ble (lev1 + 1) lev = true) (hbase : 2 ≤ lev) (hzX10_whole : ∀ (M : Mm), Mt cQz l layM G lev1 yX10_whole cX10_whole 1 (some .boolean) [rf G 0] M (zX10_whole M)) (hzX10_both : ∀ (M : Mm), Mt cQz l layM G lev1 yX10_both cX10_both 1 (some .boolean) [rf G 0] M (zX10_both M)) (hzX10_compared : ∀ (M : Mm), Mt cQz l layM G lev1 yX10_compared cX10_compared 2 (some .boolean) [rf G 0] M (zX10_compared M)) (hzX10_sum : ∀ (M : Mm), Mt cQz l layM G lev1 yX10_sum cX10_sum 2 (some .boolean) [rf G 0] M (zX10_sum M)) (hzX10_product : ∀ (M : Mm), Mt cQz l layM G lev1 yX10_product cX10_product 2 (some .boolean) [rf G 0] M (zX10_product M)) (hzX10_one : ∀ (M : Mm), Mt cQz l layM G lev1 yX10_one cX10_one 4 (some .boolean) [rf G 0] M (zX10_one M)) : ∀ (n : Nat) (M : Mm), Sim cQz l layM G lev cX10_product RX10 2 (some .boolean) 9 [(0, rf G 0)] [] M (fX10_product_L9 zX10_whole zX10_both zX10_compared zX10_sum zX10_product zX10_one n M)
  | 0, _ => s_none
  | n + 1, M => tX10_product_L9b l G zX10_whole zX10_both zX10_compared zX10_sum zX10_product zX10_one lev lev1 hlev hbase hzX10_whole hzX10_both hzX10_compared hzX10_sum hzX10_product hzX10_one _ (tX10_product_L9 l G zX10_whole zX10_both zX10_compared zX10_sum zX10_product zX10_one lev lev1 hlev hbase hzX10_whole hzX10_both hzX10_compared hzX10_sum hzX10_product hzX10_one n) M
def fX10_product_b (zX10_whole : Mm → Option (Bool × Mm)) (zX10_both : Mm → Option (Bool × Mm)) (zX10_compared : Mm → Option (Bool × Mm)) (zX10_sum : Mm → Option (Bool × Mm)) (zX10_product : Mm → Option (Bool × Mm)) (zX10_one : Mm → Option (Bool × Mm)) (M : Mm) : Option (Bool × Mm) :=
  bd (zX10_one M) fun r1 M2 =>
  if r1 = true then (fX10_product_L9 zX10_whole zX10_both zX10_compared zX10_sum zX10_product zX10_one FU M2)
  else some (false, M2)
theorem mX10_product_b (l : Launch) (G : Gx) (zX10_whole : Mm → Option (Bool × Mm)) (zX10_both : Mm → Option (Bool × Mm)) (zX10_compared : Mm → Option (Bool × Mm)) (zX10_sum : Mm → Option (Bool × Mm)) (zX10_product : Mm → Option (Bool × Mm)) (zX10_one : Mm → Option (Bool × Mm)) (lev lev1 : Nat) (hlev : Nat.ble (lev1 + 1) lev = true) (hbase : 2 ≤ lev) (hzX10_whole : ∀ (M : Mm), Mt cQz l layM G lev1 yX10_whole cX10_whole 1 (some .boolean) [rf G 0] M (zX10_whole M)) (hzX10_both : ∀ (M : Mm), Mt cQz l layM G lev1 yX10_both cX10_both 1 (some .boolean) [rf G 0] M (zX10_both M)) (hzX10_compared : ∀ (M : Mm), Mt cQz l layM G lev1 yX10_compared cX10_compared 2 (some .boolean) [rf G 0] M (zX10_compared M)) (hzX10_sum : ∀ (M : Mm), Mt cQz l layM G lev1 yX10_sum cX10_sum 2 (some .boolean) [rf G 0] M (zX10_sum M)) (hzX10_product : ∀ (M : Mm), Mt cQz l layM G lev1 yX10_product cX10_product 2 (some .boolean) [rf G 0] M (zX10_product M)) (hzX10_one : ∀ (M : Mm), Mt cQz l layM G lev1 yX10_one cX10_one 4 (some .boolean) [rf G 0] M (zX10_one M)) (M : Mm) : Mt cQz l layM G lev yX10_product cX10_product 2 (some .boolean) [rf G 0] M (fX10_product_b zX10_whole zX10_both zX10_compared zX10_sum zX10_product zX10_one M) := by
  refine Mt.of2 (own := RX10) (lv := [(0, rf G 0)]) rfl (by decide +kernel) rfl rfl ?_
  unfold fX10_product_b
  refine s_aload_n 0 dX10_product_0 rfl rfl ?_
  refine s_call_z (s_runV (ci := 10) (rest := []) rfl rfl (hzX10_one M) ok_X10_one k_X10_115 hlev rfl rfl rfl dX10_product_1) fun r1 M2 => ?_
  refine s_ifneB (tgt := 9) dX10_product_4 (by decide) ?_ ?_
  · exact s_sub [0] rfl (tX10_product_L9 l G zX10_whole zX10_both zX10_compared zX10_sum zX10_product zX10_one lev lev1 hlev hbase hzX10_whole hzX10_both hzX10_compared hzX10_sum hzX10_product hzX10_one FU M2)
  · refine s_iconst (v := 0) dX10_product_7 ci_0 ?_
    exact s_zret0 rfl dX10_product_8
theorem dX10_one_0 : decode cX10_one 0 = .ok (.aload_n 0, 1) := by decide +kernel
theorem dX10_one_1 : decode cX10_one 1 = .ok (.invokevirtual 98, 3) := by decide +kernel
theorem dX10_one_4 : decode cX10_one 4 = .ok (.istore_n 1, 1) := by decide +kernel
theorem dX10_one_5 : decode cX10_one 5 = .ok (.aload_n 0, 1) := by decide +kernel
theorem dX10_one_6 : decode cX10_one 6 = .ok (.iload_n 1, 1) := by decide +kernel
theorem dX10_one_7 : decode cX10_one 7 = .ok (.invokevirtual 121, 3) := by decide +kernel
theorem dX10_one_10 : decode cX10_one 10 = .ok (.ifCond .eq 21, 3) := by decide +kernel
theorem dX10_one_13 : decode cX10_one 13 = .ok (.aload_n 0, 1) := by decide +kernel
theorem dX10_one_14 : decode cX10_one 14 = .ok (.dup, 1) := by decide +kernel
theorem dX10_one_15 : decode cX10_one 15 = .ok (.getfield 84, 3) := by decide +kernel
theorem dX10_one_18 : decode cX10_one 18 = .ok (.iconst 1, 1) := by decide +kernel
theorem dX10_one_19 : decode cX10_one 19 = .ok (.iadd, 1) := by decide +kernel
theorem dX10_one_20 : decode cX10_one 20 = .ok (.putfield 84, 3) := by decide +kernel
theorem dX10_one_23 : decode cX10_one 23 = .ok (.aload_n 0, 1) := by decide +kernel
theorem dX10_one_24 : decode cX10_one 24 = .ok (.iconst 1, 1) := by decide +kernel
theorem dX10_one_25 : decode cX10_one 25 = .ok (.iload_n 1, 1) := by decide +kernel
theorem dX10_one_26 : decode cX10_one 26 = .ok (.invokevirtual 102, 3) := by decide +kernel
theorem dX10_one_29 : decode cX10_one 29 = .ok (.iconst 1, 1) := by decide +kernel
theorem dX10_one_30 : decode cX10_one 30 = .ok (.ireturn, 1) := by decide +kernel
theorem dX10_one_31 : decode cX10_one 31 = .ok (.iload_n 1, 1) := by decide +kernel
theorem dX10_one_32 : decode cX10_one 32 = .ok (.bipush 48, 2) := by decide +kernel
theorem dX10_one_34 : decode cX10_one 34 = .ok (.bipush 57, 2) := by decide +kernel
theorem dX10_one_36 : decode cX10_one 36 = .ok (.invokestatic 59, 3) := by decide +kernel
theorem dX10_one_39 : decode cX10_one 39 = .ok (.ifCond .eq 63, 3) := by decide +kernel
theorem dX10_one_42 : decode cX10_one 42 = .ok (.iconst 0, 1) := by decide +kernel
theorem dX10_one_43 : decode cX10_one 43 = .ok (.istore_n 2, 1) := by decide +kernel
theorem dX10_one_44 : decode cX10_one 44 = .ok (.iconst 0, 1) := by decide +kernel
theorem dX10_one_45 : decode cX10_one 45 = .ok (.istore_n 3, 1) := by decide +kernel
theorem dX10_one_46 : decode cX10_one 46 = .ok (.iload_n 3, 1) := by decide +kernel
theorem dX10_one_47 : decode cX10_one 47 = .ok (.iconst 4, 1) := by decide +kernel
theorem dX10_one_48 : decode cX10_one 48 = .ok (.if_icmp .ge 46, 3) := by decide +kernel
theorem dX10_one_51 : decode cX10_one 51 = .ok (.aload_n 0, 1) := by decide +kernel
theorem dX10_one_52 : decode cX10_one 52 = .ok (.invokevirtual 98, 3) := by decide +kernel
theorem dX10_one_55 : decode cX10_one 55 = .ok (.bipush 48, 2) := by decide +kernel
theorem dX10_one_57 : decode cX10_one 57 = .ok (.bipush 57, 2) := by decide +kernel
theorem dX10_one_59 : decode cX10_one 59 = .ok (.invokestatic 59, 3) := by decide +kernel
theorem dX10_one_62 : decode cX10_one 62 = .ok (.ifCond .eq 32, 3) := by decide +kernel
theorem dX10_one_65 : decode cX10_one 65 = .ok (.bipush 10, 2) := by decide +kernel
theorem dX10_one_67 : decode cX10_one 67 = .ok (.iload_n 2, 1) := by decide +kernel
theorem dX10_one_68 : decode cX10_one 68 = .ok (.imul, 1) := by decide +kernel
theorem dX10_one_69 : decode cX10_one 69 = .ok (.aload_n 0, 1) := by decide +kernel
theorem dX10_one_70 : decode cX10_one 70 = .ok (.invokevirtual 98, 3) := by decide +kernel
theorem dX10_one_73 : decode cX10_one 73 = .ok (.iadd, 1) := by decide +kernel
theorem dX10_one_74 : decode cX10_one 74 = .ok (.bipush 48, 2) := by decide +kernel
theorem dX10_one_76 : decode cX10_one 76 = .ok (.isub, 1) := by decide +kernel
theorem dX10_one_77 : decode cX10_one 77 = .ok (.istore_n 2, 1) := by decide +kernel
theorem dX10_one_78 : decode cX10_one 78 = .ok (.aload_n 0, 1) := by decide +kernel
theorem dX10_one_79 : decode cX10_one 79 = .ok (.dup, 1) := by decide +kernel
theorem dX10_one_80 : decode cX10_one 80 = .ok (.getfield 84, 3) := by decide +kernel
theorem dX10_one_83 : decode cX10_one 83 = .ok (.iconst 1, 1) := by decide +kernel
theorem dX10_one_84 : decode cX10_one 84 = .ok (.iadd, 1) := by decide +kernel
theorem dX10_one_85 : decode cX10_one 85 = .ok (.putfield 84, 3) := by decide +kernel
theorem dX10_one_88 : decode cX10_one 88 = .ok (.iinc 3 1, 3) := by decide +kernel
theorem dX10_one_91 : decode cX10_one 91 = .ok (.goto (-45), 3) := by decide +kernel
theorem dX10_one_94 : decode cX10_one 94 = .ok (.aload_n 0, 1) := by decide +kernel
theorem dX10_one_95 : decode cX10_one 95 = .ok (.iconst 0, 1) := by decide +kernel
theorem dX10_one_96 : decode cX10_one 96 = .ok (.iload_n 2, 1) := by decide +kernel
theorem dX10_one_97 : decode cX10_one 97 = .ok (.invokevirtual 102, 3) := by decide +kernel
theorem dX10_one_100 : decode cX10_one 100 = .ok (.iconst 1, 1) := by decide +kernel
theorem dX10_one_101 : decode cX10_one 101 = .ok (.ireturn, 1) := by decide +kernel
theorem dX10_one_102 : decode cX10_one 102 = .ok (.iload_n 1, 1) := by decide +kernel
theorem dX10_one_103 : decode cX10_one 103 = .ok (.bipush 33, 2) := by decide +kernel
theorem dX10_one_105 : decode cX10_one 105 = .ok (.if_icmp .ne 37, 3) := by decide +kernel
theorem dX10_one_108 : decode cX10_one 108 = .ok (.aload_n 0, 1) := by decide +kernel
theorem dX10_one_109 : decode cX10_one 109 = .ok (.invokevirtual 125, 3) := by decide +kernel
theorem dX10_one_112 : decode cX10_one 112 = .ok (.ifCond .eq 10, 3) := by decide +kernel
theorem dX10_one_115 : decode cX10_one 115 = .ok (.aload_n 0, 1) := by decide +kernel
theorem dX10_one_116 : decode cX10_one 116 = .ok (.invokevirtual 115, 3) := by decide +kernel
theorem dX10_one_119 : decode cX10_one 119 = .ok (.ifCond .ne 5, 3) := by decide +kernel
theorem dX10_one_122 : decode cX10_one 122 = .ok (.iconst 0, 1) := by decide +kernel
theorem dX10_one_123 : decode cX10_one 123 = .ok (.ireturn, 1) := by decide +kernel
theorem dX10_one_124 : decode cX10_one 124 = .ok (.aload_n 0, 1) := by decide +kernel
theorem dX10_one_125 : decode cX10_one 125 = .ok (.dup, 1) := by decide +kernel
theorem dX10_one_126 : decode cX10_one 126 = .ok (.getfield 118, 3) := by decide +kernel
theorem dX10_one_129 : decode cX10_one 129 = .ok (.iconst 1, 1) := by decide +kernel
theorem dX10_one_130 : decode cX10_one 130 = .ok (.isub, 1) := by decide +kernel
theorem dX10_one_131 : decode cX10_one 131 = .ok (.putfield 118, 3) := by decide +kernel
theorem dX10_one_134 : decode cX10_one 134 = .ok (.aload_n 0, 1) := by decide +kernel
theorem dX10_one_135 : decode cX10_one 135 = .ok (.iconst 2, 1) := by decide +kernel
theorem dX10_one_136 : decode cX10_one 136 = .ok (.iconst 0, 1) := by decide +kernel
theorem dX10_one_137 : decode cX10_one 137 = .ok (.invokevirtual 102, 3) := by decide +kernel
theorem dX10_one_140 : decode cX10_one 140 = .ok (.iconst 1, 1) := by decide +kernel
theorem dX10_one_141 : decode cX10_one 141 = .ok (.ireturn, 1) := by decide +kernel
theorem dX10_one_142 : decode cX10_one 142 = .ok (.iload_n 1, 1) := by decide +kernel
theorem dX10_one_143 : decode cX10_one 143 = .ok (.bipush 40, 2) := by decide +kernel
theorem dX10_one_145 : decode cX10_one 145 = .ok (.if_icmp .ne 26, 3) := by decide +kernel
theorem dX10_one_148 : decode cX10_one 148 = .ok (.aload_n 0, 1) := by decide +kernel
theorem dX10_one_149 : decode cX10_one 149 = .ok (.invokevirtual 125, 3) := by decide +kernel
theorem dX10_one_152 : decode cX10_one 152 = .ok (.ifCond .eq 19, 3) := by decide +kernel
theorem dX10_one_155 : decode cX10_one 155 = .ok (.aload_n 0, 1) := by decide +kernel
theorem dX10_one_156 : decode cX10_one 156 = .ok (.invokevirtual 128, 3) := by decide +kernel
theorem dX10_one_159 : decode cX10_one 159 = .ok (.ifCond .eq 12, 3) := by decide +kernel
theorem dX10_one_162 : decode cX10_one 162 = .ok (.aload_n 0, 1) := by decide +kernel
theorem dX10_one_163 : decode cX10_one 163 = .ok (.invokevirtual 98, 3) := by decide +kernel
theorem dX10_one_166 : decode cX10_one 166 = .ok (.bipush 41, 2) := by decide +kernel
theorem dX10_one_168 : decode cX10_one 168 = .ok (.if_icmp .eq 5, 3) := by decide +kernel
theorem dX10_one_171 : decode cX10_one 171 = .ok (.iconst 0, 1) := by decide +kernel
theorem dX10_one_172 : decode cX10_one 172 = .ok (.ireturn, 1) := by decide +kernel
theorem dX10_one_173 : decode cX10_one 173 = .ok (.aload_n 0, 1) := by decide +kernel
theorem dX10_one_174 : decode cX10_one 174 = .ok (.dup, 1) := by decide +kernel
theorem dX10_one_175 : decode cX10_one 175 = .ok (.getfield 84, 3) := by decide +kernel
theorem dX10_one_178 : decode cX10_one 178 = .ok (.iconst 1, 1) := by decide +kernel
theorem dX10_one_179 : decode cX10_one 179 = .ok (.iadd, 1) := by decide +kernel
theorem dX10_one_180 : decode cX10_one 180 = .ok (.putfield 84, 3) := by decide +kernel
theorem dX10_one_183 : decode cX10_one 183 = .ok (.aload_n 0, 1) := by decide +kernel
theorem dX10_one_184 : decode cX10_one 184 = .ok (.dup, 1) := by decide +kernel
theorem dX10_one_185 : decode cX10_one 185 = .ok (.getfield 118, 3) := by decide +kernel
theorem dX10_one_188 : decode cX10_one 188 = .ok (.iconst 1, 1) := by decide +kernel
theorem dX10_one_189 : decode cX10_one 189 = .ok (.isub, 1) := by decide +kernel
theorem dX10_one_190 : decode cX10_one 190 = .ok (.putfield 118, 3) := by decide +kernel
theorem dX10_one_193 : decode cX10_one 193 = .ok (.iconst 1, 1) := by decide +kernel
theorem dX10_one_194 : decode cX10_one 194 = .ok (.ireturn, 1) := by decide +kernel
def fX10_one_B94 (zX10_whole : Mm → Option (Bool × Mm)) (zX10_both : Mm → Option (Bool × Mm)) (zX10_compared : Mm → Option (Bool × Mm)) (zX10_sum : Mm → Option (Bool × Mm)) (zX10_product : Mm → Option (Bool × Mm)) (zX10_one : Mm → Option (Bool × Mm)) (v2 : Int32) (M : Mm) : Option (Bool × Mm) :=
  bd (fX10_lays (0 : Int32) v2 M) fun r10 M11 =>
  some (true, M11)
theorem tX10_one_B94 (l : Launch) (G : Gx) (zX10_whole : Mm → Option (Bool × Mm)) (zX10_both : Mm → Option (Bool × Mm)) (zX10_compared : Mm → Option (Bool × Mm)) (zX10_sum : Mm → Option (Bool × Mm)) (zX10_product : Mm → Option (Bool × Mm)) (zX10_one : Mm → Option (Bool × Mm)) (lev lev1 : Nat) (hlev : Nat.ble (lev1 + 1) lev = true) (hbase : 2 ≤ lev) (hzX10_whole : ∀ (M : Mm), Mt cQz l layM G lev1 yX10_whole cX10_whole 1 (some .boolean) [rf G 0] M (zX10_whole M)) (hzX10_both : ∀ (M : Mm), Mt cQz l layM G lev1 yX10_both cX10_both 1 (some .boolean) [rf G 0] M (zX10_both M)) (hzX10_compared : ∀ (M : Mm), Mt cQz l layM G lev1 yX10_compared cX10_compared 2 (some .boolean) [rf G 0] M (zX10_compared M)) (hzX10_sum : ∀ (M : Mm), Mt cQz l layM G lev1 yX10_sum cX10_sum 2 (some .boolean) [rf G 0] M (zX10_sum M)) (hzX10_product : ∀ (M : Mm), Mt cQz l layM G lev1 yX10_product cX10_product 2 (some .boolean) [rf G 0] M (zX10_product M)) (hzX10_one : ∀ (M : Mm), Mt cQz l layM G lev1 yX10_one cX10_one 4 (some .boolean) [rf G 0] M (zX10_one M)) (v2 : Int32) (M : Mm) : Sim cQz l layM G lev cX10_one RX10 4 (some .boolean) 94 [(2, .int v2), (0, rf G 0)] [] M (fX10_one_B94 zX10_whole zX10_both zX10_compared zX10_sum zX10_product zX10_one v2 M) := by
  unfold fX10_one_B94
  refine s_aload_n 1 dX10_one_94 rfl rfl ?_
  refine s_iconst (v := 0) dX10_one_95 ci_0 ?_
  refine s_iload_n 0 dX10_one_96 rfl rfl ?_
  refine s_call_v (s_runV (ci := 10) (rest := []) rfl rfl (mX10_lays l G (0 : Int32) v2 M) ok_X10_lays k_X10_102 (ble_of hbase rfl) rfl rfl rfl dX10_one_97) fun r10 M11 => ?_
  refine s_iconst (v := 1) dX10_one_100 ci_1 ?_
  exact s_zret1 rfl dX10_one_101
def fX10_one_L46b (zX10_whole : Mm → Option (Bool × Mm)) (zX10_both : Mm → Option (Bool × Mm)) (zX10_compared : Mm → Option (Bool × Mm)) (zX10_sum : Mm → Option (Bool × Mm)) (zX10_product : Mm → Option (Bool × Mm)) (zX10_one : Mm → Option (Bool × Mm)) (q46 : Int32 → Int32 → Mm → Option (Bool × Mm)) (v3 : Int32) (v2 : Int32) (M : Mm) : Option (Bool × Mm) :=
  if (4 : Int32) ≤ v3 then (fX10_one_B94 zX10_whole zX10_both zX10_compared zX10_sum zX10_product zX10_one v2 M)
  else bd (fX10_look M) fun r12 M13 =>
  bd (fX10_in r12 (48 : Int32) (57 : Int32) M13) fun r14 M15 =>
  if r14 = true then (bd (fX10_look M15) fun r16 M17 =>
  lt ((((10 : Int32) * v2) + r16) - (48 : Int32)) fun x18 =>
  lt (wr M17 0 5 ((M17 0 5) + (1 : Int32))) fun M19 =>
  q46 (v3 + 1) x18 M19)
  else fX10_one_B94 zX10_whole zX10_both zX10_compared zX10_sum zX10_product zX10_one v2 M15
def fX10_one_L46 (zX10_whole : Mm → Option (Bool × Mm)) (zX10_both : Mm → Option (Bool × Mm)) (zX10_compared : Mm → Option (Bool × Mm)) (zX10_sum : Mm → Option (Bool × Mm)) (zX10_product : Mm → Option (Bool × Mm)) (zX10_one : Mm → Option (Bool × Mm)) : Nat → Int32 → Int32 → Mm → Option (Bool × Mm)
  | 0 => fun _ _ _ => none
  | n + 1 => fX10_one_L46b zX10_whole zX10_both zX10_compared zX10_sum zX10_product zX10_one (fX10_one_L46 zX10_whole zX10_both zX10_compared zX10_sum zX10_product zX10_one n)
theorem tX10_one_L46b (l : Launch) (G : Gx) (zX10_whole : Mm → Option (Bool × Mm)) (zX10_both : Mm → Option (Bool × Mm)) (zX10_compared : Mm → Option (Bool × Mm)) (zX10_sum : Mm → Option (Bool × Mm)) (zX10_product : Mm → Option (Bool × Mm)) (zX10_one : Mm → Option (Bool × Mm)) (lev lev1 : Nat) (hlev : Nat.ble (lev1 + 1) lev = true) (hbase : 2 ≤ lev) (hzX10_whole : ∀ (M : Mm), Mt cQz l layM G lev1 yX10_whole cX10_whole 1 (some .boolean) [rf G 0] M (zX10_whole M)) (hzX10_both : ∀ (M : Mm), Mt cQz l layM G lev1 yX10_both cX10_both 1 (some .boolean) [rf G 0] M (zX10_both M)) (hzX10_compared : ∀ (M : Mm), Mt cQz l layM G lev1 yX10_compared cX10_compared 2 (some .boolean) [rf G 0] M (zX10_compared M)) (hzX10_sum : ∀ (M : Mm), Mt cQz l layM G lev1 yX10_sum cX10_sum 2 (some .boolean) [rf G 0] M (zX10_sum M)) (hzX10_product : ∀ (M : Mm), Mt cQz l layM G lev1 yX10_product cX10_product 2 (some .boolean) [rf G 0] M (zX10_product M)) (hzX10_one : ∀ (M : Mm), Mt cQz l layM G lev1 yX10_one cX10_one 4 (some .boolean) [rf G 0] M (zX10_one M)) (q46 : Int32 → Int32 → Mm → Option (Bool × Mm)) (hq46 : ∀ (v3 : Int32) (v2 : Int32) (M : Mm), Sim cQz l layM G lev cX10_one RX10 4 (some .boolean) 46 [(3, .int v3), (2, .int v2), (0, rf G 0)] [] M (q46 v3 v2 M)) (v3 : Int32) (v2 : Int32) (M : Mm) : Sim cQz l layM G lev cX10_one RX10 4 (some .boolean) 46 [(3, .int v3), (2, .int v2), (0, rf G 0)] [] M (fX10_one_L46b zX10_whole zX10_both zX10_compared zX10_sum zX10_product zX10_one q46 v3 v2 M) := by
  unfold fX10_one_L46b
  refine s_iload_n 0 dX10_one_46 rfl rfl ?_
  refine s_iconst (v := 4) dX10_one_47 ci_4 ?_
  refine s_icmpge (tgt := 94) dX10_one_48 (by decide) ?_ ?_
  · exact s_sub [1, 2] rfl (tX10_one_B94 l G zX10_whole zX10_both zX10_compared zX10_sum zX10_product zX10_one lev lev1 hlev hbase hzX10_whole hzX10_both hzX10_compared hzX10_sum hzX10_product hzX10_one v2 M)
  · refine s_aload_n 2 dX10_one_51 rfl rfl ?_
    refine s_call_i (s_runV (ci := 10) (rest := []) rfl rfl (mX10_look l G M) ok_X10_look k_X10_98 (ble_of hbase rfl) rfl rfl rfl dX10_one_52) fun r12 M13 => ?_
    refine s_bipush (v := 48) dX10_one_55 cb_48 ?_
    refine s_bipush (v := 57) dX10_one_57 cb_57 ?_
    refine s_call_z (s_runS (rest := []) (mX10_in l G r12 (48 : Int32) (57 : Int32) M13) ok_X10_in k_X10_59 (ble_of hbase rfl) rfl rfl rfl dX10_one_59) fun r14 M15 => ?_
    refine s_ifeqB (tgt := 94) dX10_one_62 (by decide) ?_ ?_
    · exact s_sub [1, 2] rfl (tX10_one_B94 l G zX10_whole zX10_both zX10_compared zX10_sum zX10_product zX10_one lev lev1 hlev hbase hzX10_whole hzX10_both hzX10_compared hzX10_sum hzX10_product hzX10_one v2 M15)
    · refine s_bipush (v := 10) dX10_one_65 cb_10 ?_
      refine s_iload_n 1 dX10_one_67 rfl rfl ?_
      refine s_imul dX10_one_68 ?_
      refine s_aload_n 2 dX10_one_69 rfl rfl ?_
      refine s_call_i (s_runV (ci := 10) (rest := [.int ((10 : Int32) * v2)]) rfl rfl (mX10_look l G M15) ok_X10_look k_X10_98 (ble_of hbase rfl) rfl rfl rfl dX10_one_70) fun r16 M17 => ?_
      refine s_iadd dX10_one_73 ?_
      refine s_bipush (v := 48) dX10_one_74 cb_48 ?_
      refine s_isub dX10_one_76 ?_
      refine s_leti fun x18 => ?_
      refine s_istore_n (lv' := [(2, .int x18), (3, .int v3), (0, rf G 0)]) dX10_one_77 rfl rfl rfl ?_
      refine s_aload_n 2 dX10_one_78 rfl rfl ?_
      refine s_dup dX10_one_79 rfl ?_
      refine g_X10_84 rfl dX10_one_80 ?_
      refine s_iconst (v := 1) dX10_one_83 ci_1 ?_
      refine s_iadd dX10_one_84 ?_
      refine p_X10_84 rfl dX10_one_85 ?_
      refine s_letM fun M19 => ?_
      refine s_iinc (k := 1) (lv' := [(3, .int (v3 + 1)), (2, .int x18), (0, rf G 0)]) dX10_one_88 rfl ci_1 rfl rfl ?_
      refine s_goto (tgt := 46) dX10_one_91 (by decide) ?_
      exact s_sub [0, 1, 2] rfl (hq46 (v3 + 1) x18 M19)
theorem tX10_one_L46 (l : Launch) (G : Gx) (zX10_whole : Mm → Option (Bool × Mm)) (zX10_both : Mm → Option (Bool × Mm)) (zX10_compared : Mm → Option (Bool × Mm)) (zX10_sum : Mm → Option (Bool × Mm)) (zX10_product : Mm → Option (Bool × Mm)) (zX10_one : Mm → Option (Bool × Mm)) (lev lev1 : Nat) (hlev : Nat.ble (lev1 + 1) lev = true) (hbase : 2 ≤ lev) (hzX10_whole : ∀ (M : Mm), Mt cQz l layM G lev1 yX10_whole cX10_whole 1 (some .boolean) [rf G 0] M (zX10_whole M)) (hzX10_both : ∀ (M : Mm), Mt cQz l layM G lev1 yX10_both cX10_both 1 (some .boolean) [rf G 0] M (zX10_both M)) (hzX10_compared : ∀ (M : Mm), Mt cQz l layM G lev1 yX10_compared cX10_compared 2 (some .boolean) [rf G 0] M (zX10_compared M)) (hzX10_sum : ∀ (M : Mm), Mt cQz l layM G lev1 yX10_sum cX10_sum 2 (some .boolean) [rf G 0] M (zX10_sum M)) (hzX10_product : ∀ (M : Mm), Mt cQz l layM G lev1 yX10_product cX10_product 2 (some .boolean) [rf G 0] M (zX10_product M)) (hzX10_one : ∀ (M : Mm), Mt cQz l layM G lev1 yX10_one cX10_one 4 (some .boolean) [rf G 0] M (zX10_one M)) : ∀ (n : Nat) (v3 : Int32) (v2 : Int32) (M : Mm), Sim cQz l layM G lev cX10_one RX10 4 (some .boolean) 46 [(3, .int v3), (2, .int v2), (0, rf G 0)] [] M (fX10_one_L46 zX10_whole zX10_both zX10_compared zX10_sum zX10_product zX10_one n v3 v2 M)
  | 0, _, _, _ => s_none
  | n + 1, v3, v2, M => tX10_one_L46b l G zX10_whole zX10_both zX10_compared zX10_sum zX10_product zX10_one lev lev1 hlev hbase hzX10_whole hzX10_both hzX10_compared hzX10_sum hzX10_product hzX10_one _ (tX10_one_L46 l G zX10_whole zX10_both zX10_compared zX10_sum zX10_product zX10_one lev lev1 hlev hbase hzX10_whole hzX10_both hzX10_compared hzX10_sum hzX10_product hzX10_one n) v3 v2 M
def fX10_one_B171 (zX10_whole : Mm → Option (Bool × Mm)) (zX10_both : Mm → Option (Bool × Mm)) (zX10_compared : Mm → Option (Bool × Mm)) (zX10_sum : Mm → Option (Bool × Mm)) (zX10_product : Mm → Option (Bool × Mm)) (zX10_one : Mm → Option (Bool × Mm)) (M : Mm) : Option (Bool × Mm) :=
  some (false, M)
theorem tX10_one_B171 (l : Launch) (G : Gx) (zX10_whole : Mm → Option (Bool × Mm)) (zX10_both : Mm → Option (Bool × Mm)) (zX10_compared : Mm → Option (Bool × Mm)) (zX10_sum : Mm → Option (Bool × Mm)) (zX10_product : Mm → Option (Bool × Mm)) (zX10_one : Mm → Option (Bool × Mm)) (lev lev1 : Nat) (hlev : Nat.ble (lev1 + 1) lev = true) (hbase : 2 ≤ lev) (hzX10_whole : ∀ (M : Mm), Mt cQz l layM G lev1 yX10_whole cX10_whole 1 (some .boolean) [rf G 0] M (zX10_whole M)) (hzX10_both : ∀ (M : Mm), Mt cQz l layM G lev1 yX10_both cX10_both 1 (some .boolean) [rf G 0] M (zX10_both M)) (hzX10_compared : ∀ (M : Mm), Mt cQz l layM G lev1 yX10_compared cX10_compared 2 (some .boolean) [rf G 0] M (zX10_compared M)) (hzX10_sum : ∀ (M : Mm), Mt cQz l layM G lev1 yX10_sum cX10_sum 2 (some .boolean) [rf G 0] M (zX10_sum M)) (hzX10_product : ∀ (M : Mm), Mt cQz l layM G lev1 yX10_product cX10_product 2 (some .boolean) [rf G 0] M (zX10_product M)) (hzX10_one : ∀ (M : Mm), Mt cQz l layM G lev1 yX10_one cX10_one 4 (some .boolean) [rf G 0] M (zX10_one M)) (M : Mm) : Sim cQz l layM G lev cX10_one RX10 4 (some .boolean) 171 [] [] M (fX10_one_B171 zX10_whole zX10_both zX10_compared zX10_sum zX10_product zX10_one M) := by
  unfold fX10_one_B171
  refine s_iconst (v := 0) dX10_one_171 ci_0 ?_
  exact s_zret0 rfl dX10_one_172
def fX10_one_B122 (zX10_whole : Mm → Option (Bool × Mm)) (zX10_both : Mm → Option (Bool × Mm)) (zX10_compared : Mm → Option (Bool × Mm)) (zX10_sum : Mm → Option (Bool × Mm)) (zX10_product : Mm → Option (Bool × Mm)) (zX10_one : Mm → Option (Bool × Mm)) (M : Mm) : Option (Bool × Mm) :=
  some (false, M)
theorem tX10_one_B122 (l : Launch) (G : Gx) (zX10_whole : Mm → Option (Bool × Mm)) (zX10_both : Mm → Option (Bool × Mm)) (zX10_compared : Mm → Option (Bool × Mm)) (zX10_sum : Mm → Option (Bool × Mm)) (zX10_product : Mm → Option (Bool × Mm)) (zX10_one : Mm → Option (Bool × Mm)) (lev lev1 : Nat) (hlev : Nat.ble (lev1 + 1) lev = true) (hbase : 2 ≤ lev) (hzX10_whole : ∀ (M : Mm), Mt cQz l layM G lev1 yX10_whole cX10_whole 1 (some .boolean) [rf G 0] M (zX10_whole M)) (hzX10_both : ∀ (M : Mm), Mt cQz l layM G lev1 yX10_both cX10_both 1 (some .boolean) [rf G 0] M (zX10_both M)) (hzX10_compared : ∀ (M : Mm), Mt cQz l layM G lev1 yX10_compared cX10_compared 2 (some .boolean) [rf G 0] M (zX10_compared M)) (hzX10_sum : ∀ (M : Mm), Mt cQz l layM G lev1 yX10_sum cX10_sum 2 (some .boolean) [rf G 0] M (zX10_sum M)) (hzX10_product : ∀ (M : Mm), Mt cQz l layM G lev1 yX10_product cX10_product 2 (some .boolean) [rf G 0] M (zX10_product M)) (hzX10_one : ∀ (M : Mm), Mt cQz l layM G lev1 yX10_one cX10_one 4 (some .boolean) [rf G 0] M (zX10_one M)) (M : Mm) : Sim cQz l layM G lev cX10_one RX10 4 (some .boolean) 122 [] [] M (fX10_one_B122 zX10_whole zX10_both zX10_compared zX10_sum zX10_product zX10_one M) := by
  unfold fX10_one_B122
  refine s_iconst (v := 0) dX10_one_122 ci_0 ?_
  exact s_zret0 rfl dX10_one_123
def fX10_one_b (zX10_whole : Mm → Option (Bool × Mm)) (zX10_both : Mm → Option (Bool × Mm)) (zX10_compared : Mm → Option (Bool × Mm)) (zX10_sum : Mm → Option (Bool × Mm)) (zX10_product : Mm → Option (Bool × Mm)) (zX10_one : Mm → Option (Bool × Mm)) (M : Mm) : Option (Bool × Mm) :=
  bd (fX10_look M) fun r1 M2 =>
  bd (fX10_isName r1 M2) fun r3 M4 =>
  if r3 = true then (lt (wr M4 0 5 ((M4 0 5) + (1 : Int32))) fun M5 =>
  bd (fX10_lays (1 : Int32) r1 M5) fun r6 M7 =>
  some (true, M7))
  else bd (fX10_in r1 (48 : Int32) (57 : Int32) M4) fun r8 M9 =>
  if r8 = true then (fX10_one_L46 zX10_whole zX10_both zX10_compared zX10_sum zX10_product zX10_one FU (0 : Int32) (0 : Int32) M9)
  else if r1 = (33 : Int32) then (bd (fX10_opens M9) fun r28 M29 =>
  if r28 = true then (bd (zX10_one M29) fun r30 M31 =>
  if r30 = true then (lt (wr M31 0 6 ((M31 0 6) - (1 : Int32))) fun M32 =>
  bd (fX10_lays (2 : Int32) (0 : Int32) M32) fun r33 M34 =>
  some (true, M34))
  else fX10_one_B122 zX10_whole zX10_both zX10_compared zX10_sum zX10_product zX10_one M31)
  else fX10_one_B122 zX10_whole zX10_both zX10_compared zX10_sum zX10_product zX10_one M29)
  else if r1 = (40 : Int32) then (bd (fX10_opens M9) fun r20 M21 =>
  if r20 = true then (bd (zX10_whole M21) fun r22 M23 =>
  if r22 = true then (bd (fX10_look M23) fun r24 M25 =>
  if r24 = (41 : Int32) then (lt (wr M25 0 5 ((M25 0 5) + (1 : Int32))) fun M26 =>
  lt (wr M26 0 6 ((M26 0 6) - (1 : Int32))) fun M27 =>
  some (true, M27))
  else fX10_one_B171 zX10_whole zX10_both zX10_compared zX10_sum zX10_product zX10_one M25)
  else fX10_one_B171 zX10_whole zX10_both zX10_compared zX10_sum zX10_product zX10_one M23)
  else fX10_one_B171 zX10_whole zX10_both zX10_compared zX10_sum zX10_product zX10_one M21)
  else fX10_one_B171 zX10_whole zX10_both zX10_compared zX10_sum zX10_product zX10_one M9
theorem mX10_one_b (l : Launch) (G : Gx) (zX10_whole : Mm → Option (Bool × Mm)) (zX10_both : Mm → Option (Bool × Mm)) (zX10_compared : Mm → Option (Bool × Mm)) (zX10_sum : Mm → Option (Bool × Mm)) (zX10_product : Mm → Option (Bool × Mm)) (zX10_one : Mm → Option (Bool × Mm)) (lev lev1 : Nat) (hlev : Nat.ble (lev1 + 1) lev = true) (hbase : 2 ≤ lev) (hzX10_whole : ∀ (M : Mm), Mt cQz l layM G lev1 yX10_whole cX10_whole 1 (some .boolean) [rf G 0] M (zX10_whole M)) (hzX10_both : ∀ (M : Mm), Mt cQz l layM G lev1 yX10_both cX10_both 1 (some .boolean) [rf G 0] M (zX10_both M)) (hzX10_compared : ∀ (M : Mm), Mt cQz l layM G lev1 yX10_compared cX10_compared 2 (some .boolean) [rf G 0] M (zX10_compared M)) (hzX10_sum : ∀ (M : Mm), Mt cQz l layM G lev1 yX10_sum cX10_sum 2 (some .boolean) [rf G 0] M (zX10_sum M)) (hzX10_product : ∀ (M : Mm), Mt cQz l layM G lev1 yX10_product cX10_product 2 (some .boolean) [rf G 0] M (zX10_product M)) (hzX10_one : ∀ (M : Mm), Mt cQz l layM G lev1 yX10_one cX10_one 4 (some .boolean) [rf G 0] M (zX10_one M)) (M : Mm) : Mt cQz l layM G lev yX10_one cX10_one 4 (some .boolean) [rf G 0] M (fX10_one_b zX10_whole zX10_both zX10_compared zX10_sum zX10_product zX10_one M) := by
  refine Mt.of2 (own := RX10) (lv := [(0, rf G 0)]) rfl (by decide +kernel) rfl rfl ?_
  unfold fX10_one_b
  refine s_aload_n 0 dX10_one_0 rfl rfl ?_
  refine s_call_i (s_runV (ci := 10) (rest := []) rfl rfl (mX10_look l G M) ok_X10_look k_X10_98 (ble_of hbase rfl) rfl rfl rfl dX10_one_1) fun r1 M2 => ?_
  refine s_istore_n (lv' := [(1, .int r1), (0, rf G 0)]) dX10_one_4 rfl rfl rfl ?_
  refine s_aload_n 1 dX10_one_5 rfl rfl ?_
  refine s_iload_n 0 dX10_one_6 rfl rfl ?_
  refine s_call_z (s_runV (ci := 10) (rest := []) rfl rfl (mX10_isName l G r1 M2) ok_X10_isName k_X10_121 (ble_of hbase rfl) rfl rfl rfl dX10_one_7) fun r3 M4 => ?_
  refine s_ifeqB (tgt := 31) dX10_one_10 (by decide) ?_ ?_
  · refine s_iload_n 0 dX10_one_31 rfl rfl ?_
    refine s_bipush (v := 48) dX10_one_32 cb_48 ?_
    refine s_bipush (v := 57) dX10_one_34 cb_57 ?_
    refine s_call_z (s_runS (rest := []) (mX10_in l G r1 (48 : Int32) (57 : Int32) M4) ok_X10_in k_X10_59 (ble_of hbase rfl) rfl rfl rfl dX10_one_36) fun r8 M9 => ?_
    refine s_ifeqB (tgt := 102) dX10_one_39 (by decide) ?_ ?_
    · refine s_iload_n 0 dX10_one_102 rfl rfl ?_
      refine s_bipush (v := 33) dX10_one_103 cb_33 ?_
      refine s_icmpne (tgt := 142) dX10_one_105 (by decide) ?_ ?_
      · refine s_iload_n 0 dX10_one_142 rfl rfl ?_
        refine s_bipush (v := 40) dX10_one_143 cb_40 ?_
        refine s_icmpne (tgt := 171) dX10_one_145 (by decide) ?_ ?_
        · exact s_sub [] rfl (tX10_one_B171 l G zX10_whole zX10_both zX10_compared zX10_sum zX10_product zX10_one lev lev1 hlev hbase hzX10_whole hzX10_both hzX10_compared hzX10_sum hzX10_product hzX10_one M9)
        · refine s_aload_n 1 dX10_one_148 rfl rfl ?_
          refine s_call_z (s_runV (ci := 10) (rest := []) rfl rfl (mX10_opens l G M9) ok_X10_opens k_X10_125 (ble_of hbase rfl) rfl rfl rfl dX10_one_149) fun r20 M21 => ?_
          refine s_ifeqB (tgt := 171) dX10_one_152 (by decide) ?_ ?_
          · exact s_sub [] rfl (tX10_one_B171 l G zX10_whole zX10_both zX10_compared zX10_sum zX10_product zX10_one lev lev1 hlev hbase hzX10_whole hzX10_both hzX10_compared hzX10_sum hzX10_product hzX10_one M21)
          · refine s_aload_n 1 dX10_one_155 rfl rfl ?_
            refine s_call_z (s_runV (ci := 10) (rest := []) rfl rfl (hzX10_whole M21) ok_X10_whole k_X10_128 hlev rfl rfl rfl dX10_one_156) fun r22 M23 => ?_
            refine s_ifeqB (tgt := 171) dX10_one_159 (by decide) ?_ ?_
            · exact s_sub [] rfl (tX10_one_B171 l G zX10_whole zX10_both zX10_compared zX10_sum zX10_product zX10_one lev lev1 hlev hbase hzX10_whole hzX10_both hzX10_compared hzX10_sum hzX10_product hzX10_one M23)
            · refine s_aload_n 1 dX10_one_162 rfl rfl ?_
              refine s_call_i (s_runV (ci := 10) (rest := []) rfl rfl (mX10_look l G M23) ok_X10_look k_X10_98 (ble_of hbase rfl) rfl rfl rfl dX10_one_163) fun r24 M25 => ?_
              refine s_bipush (v := 41) dX10_one_166 cb_41 ?_
              refine s_icmpeq (tgt := 173) dX10_one_168 (by decide) ?_ ?_
              · refine s_aload_n 1 dX10_one_173 rfl rfl ?_
                refine s_dup dX10_one_174 rfl ?_
                refine g_X10_84 rfl dX10_one_175 ?_
                refine s_iconst (v := 1) dX10_one_178 ci_1 ?_
                refine s_iadd dX10_one_179 ?_
                refine p_X10_84 rfl dX10_one_180 ?_
                refine s_letM fun M26 => ?_
                refine s_aload_n 1 dX10_one_183 rfl rfl ?_
                refine s_dup dX10_one_184 rfl ?_
                refine g_X10_118 rfl dX10_one_185 ?_
                refine s_iconst (v := 1) dX10_one_188 ci_1 ?_
                refine s_isub dX10_one_189 ?_
                refine p_X10_118 rfl dX10_one_190 ?_
                refine s_letM fun M27 => ?_
                refine s_iconst (v := 1) dX10_one_193 ci_1 ?_
                exact s_zret1 rfl dX10_one_194
              · exact s_sub [] rfl (tX10_one_B171 l G zX10_whole zX10_both zX10_compared zX10_sum zX10_product zX10_one lev lev1 hlev hbase hzX10_whole hzX10_both hzX10_compared hzX10_sum hzX10_product hzX10_one M25)
      · refine s_aload_n 1 dX10_one_108 rfl rfl ?_
        refine s_call_z (s_runV (ci := 10) (rest := []) rfl rfl (mX10_opens l G M9) ok_X10_opens k_X10_125 (ble_of hbase rfl) rfl rfl rfl dX10_one_109) fun r28 M29 => ?_
        refine s_ifeqB (tgt := 122) dX10_one_112 (by decide) ?_ ?_
        · exact s_sub [] rfl (tX10_one_B122 l G zX10_whole zX10_both zX10_compared zX10_sum zX10_product zX10_one lev lev1 hlev hbase hzX10_whole hzX10_both hzX10_compared hzX10_sum hzX10_product hzX10_one M29)
        · refine s_aload_n 1 dX10_one_115 rfl rfl ?_
          refine s_call_z (s_runV (ci := 10) (rest := []) rfl rfl (hzX10_one M29) ok_X10_one k_X10_115 hlev rfl rfl rfl dX10_one_116) fun r30 M31 => ?_
          refine s_ifneB (tgt := 124) dX10_one_119 (by decide) ?_ ?_
          · refine s_aload_n 1 dX10_one_124 rfl rfl ?_
            refine s_dup dX10_one_125 rfl ?_
            refine g_X10_118 rfl dX10_one_126 ?_
            refine s_iconst (v := 1) dX10_one_129 ci_1 ?_
            refine s_isub dX10_one_130 ?_
            refine p_X10_118 rfl dX10_one_131 ?_
            refine s_letM fun M32 => ?_
            refine s_aload_n 1 dX10_one_134 rfl rfl ?_
            refine s_iconst (v := 2) dX10_one_135 ci_2 ?_
            refine s_iconst (v := 0) dX10_one_136 ci_0 ?_
            refine s_call_v (s_runV (ci := 10) (rest := []) rfl rfl (mX10_lays l G (2 : Int32) (0 : Int32) M32) ok_X10_lays k_X10_102 (ble_of hbase rfl) rfl rfl rfl dX10_one_137) fun r33 M34 => ?_
            refine s_iconst (v := 1) dX10_one_140 ci_1 ?_
            exact s_zret1 rfl dX10_one_141
          · exact s_sub [] rfl (tX10_one_B122 l G zX10_whole zX10_both zX10_compared zX10_sum zX10_product zX10_one lev lev1 hlev hbase hzX10_whole hzX10_both hzX10_compared hzX10_sum hzX10_product hzX10_one M31)
    · refine s_iconst (v := 0) dX10_one_42 ci_0 ?_
      refine s_istore_n (lv' := [(2, .int (0 : Int32)), (1, .int r1), (0, rf G 0)]) dX10_one_43 rfl rfl rfl ?_
      refine s_iconst (v := 0) dX10_one_44 ci_0 ?_
      refine s_istore_n (lv' := [(3, .int (0 : Int32)), (2, .int (0 : Int32)), (1, .int r1), (0, rf G 0)]) dX10_one_45 rfl rfl rfl ?_
      exact s_sub [0, 1, 3] rfl (tX10_one_L46 l G zX10_whole zX10_both zX10_compared zX10_sum zX10_product zX10_one lev lev1 hlev hbase hzX10_whole hzX10_both hzX10_compared hzX10_sum hzX10_product hzX10_one FU (0 : Int32) (0 : Int32) M9)
  · refine s_aload_n 1 dX10_one_13 rfl rfl ?_
    refine s_dup dX10_one_14 rfl ?_
    refine g_X10_84 rfl dX10_one_15 ?_
    refine s_iconst (v := 1) dX10_one_18 ci_1 ?_
    refine s_iadd dX10_one_19 ?_
    refine p_X10_84 rfl dX10_one_20 ?_
    refine s_letM fun M5 => ?_
    refine s_aload_n 1 dX10_one_23 rfl rfl ?_
    refine s_iconst (v := 1) dX10_one_24 ci_1 ?_
    refine s_iload_n 0 dX10_one_25 rfl rfl ?_
    refine s_call_v (s_runV (ci := 10) (rest := []) rfl rfl (mX10_lays l G (1 : Int32) r1 M5) ok_X10_lays k_X10_102 (ble_of hbase rfl) rfl rfl rfl dX10_one_26) fun r6 M7 => ?_
    refine s_iconst (v := 1) dX10_one_29 ci_1 ?_
    exact s_zret1 rfl dX10_one_30
def grX10_whole : Nat → (Mm → Option (Bool × Mm)) × (Mm → Option (Bool × Mm)) × (Mm → Option (Bool × Mm)) × (Mm → Option (Bool × Mm)) × (Mm → Option (Bool × Mm)) × (Mm → Option (Bool × Mm))
  | 0 => (fun _ => none, fun _ => none, fun _ => none, fun _ => none, fun _ => none, fun _ => none)
  | d + 1 => (fX10_whole_b ((grX10_whole d).1) ((grX10_whole d).2.1) ((grX10_whole d).2.2.1) ((grX10_whole d).2.2.2.1) ((grX10_whole d).2.2.2.2.1) ((grX10_whole d).2.2.2.2.2), fX10_both_b ((grX10_whole d).1) ((grX10_whole d).2.1) ((grX10_whole d).2.2.1) ((grX10_whole d).2.2.2.1) ((grX10_whole d).2.2.2.2.1) ((grX10_whole d).2.2.2.2.2), fX10_compared_b ((grX10_whole d).1) ((grX10_whole d).2.1) ((grX10_whole d).2.2.1) ((grX10_whole d).2.2.2.1) ((grX10_whole d).2.2.2.2.1) ((grX10_whole d).2.2.2.2.2), fX10_sum_b ((grX10_whole d).1) ((grX10_whole d).2.1) ((grX10_whole d).2.2.1) ((grX10_whole d).2.2.2.1) ((grX10_whole d).2.2.2.2.1) ((grX10_whole d).2.2.2.2.2), fX10_product_b ((grX10_whole d).1) ((grX10_whole d).2.1) ((grX10_whole d).2.2.1) ((grX10_whole d).2.2.2.1) ((grX10_whole d).2.2.2.2.1) ((grX10_whole d).2.2.2.2.2), fX10_one_b ((grX10_whole d).1) ((grX10_whole d).2.1) ((grX10_whole d).2.2.1) ((grX10_whole d).2.2.2.1) ((grX10_whole d).2.2.2.2.1) ((grX10_whole d).2.2.2.2.2))
def fX10_whole (d : Nat) : Mm → Option (Bool × Mm) := (grX10_whole d).1
def fX10_both (d : Nat) : Mm → Option (Bool × Mm) := (grX10_whole d).2.1
def fX10_compared (d : Nat) : Mm → Option (Bool × Mm) := (grX10_whole d).2.2.1
def fX10_sum (d : Nat) : Mm → Option (Bool × Mm) := (grX10_whole d).2.2.2.1
def fX10_product (d : Nat) : Mm → Option (Bool × Mm) := (grX10_whole d).2.2.2.2.1
def fX10_one (d : Nat) : Mm → Option (Bool × Mm) := (grX10_whole d).2.2.2.2.2
theorem mgX10_whole (l : Launch) (G : Gx) : ∀ d : Nat, (∀ (M : Mm), Mt cQz l layM G (2 + d) yX10_whole cX10_whole 1 (some .boolean) [rf G 0] M (fX10_whole d M)) ∧ (∀ (M : Mm), Mt cQz l layM G (2 + d) yX10_both cX10_both 1 (some .boolean) [rf G 0] M (fX10_both d M)) ∧ (∀ (M : Mm), Mt cQz l layM G (2 + d) yX10_compared cX10_compared 2 (some .boolean) [rf G 0] M (fX10_compared d M)) ∧ (∀ (M : Mm), Mt cQz l layM G (2 + d) yX10_sum cX10_sum 2 (some .boolean) [rf G 0] M (fX10_sum d M)) ∧ (∀ (M : Mm), Mt cQz l layM G (2 + d) yX10_product cX10_product 2 (some .boolean) [rf G 0] M (fX10_product d M)) ∧ (∀ (M : Mm), Mt cQz l layM G (2 + d) yX10_one cX10_one 4 (some .boolean) [rf G 0] M (fX10_one d M))
  | 0 => ⟨fun _ => Mt.none, fun _ => Mt.none, fun _ => Mt.none, fun _ => Mt.none, fun _ => Mt.none, fun _ => Mt.none⟩
  | d + 1 => ⟨fun  M => mX10_whole_b l G (fX10_whole d) (fX10_both d) (fX10_compared d) (fX10_sum d) (fX10_product d) (fX10_one d) (2 + (d + 1)) (2 + d) (Nat.ble_eq.mpr (Nat.le_refl _)) (Nat.le_add_right _ _) ((mgX10_whole l G d).1) ((mgX10_whole l G d).2.1) ((mgX10_whole l G d).2.2.1) ((mgX10_whole l G d).2.2.2.1) ((mgX10_whole l G d).2.2.2.2.1) ((mgX10_whole l G d).2.2.2.2.2)  M, fun  M => mX10_both_b l G (fX10_whole d) (fX10_both d) (fX10_compared d) (fX10_sum d) (fX10_product d) (fX10_one d) (2 + (d + 1)) (2 + d) (Nat.ble_eq.mpr (Nat.le_refl _)) (Nat.le_add_right _ _) ((mgX10_whole l G d).1) ((mgX10_whole l G d).2.1) ((mgX10_whole l G d).2.2.1) ((mgX10_whole l G d).2.2.2.1) ((mgX10_whole l G d).2.2.2.2.1) ((mgX10_whole l G d).2.2.2.2.2)  M, fun  M => mX10_compared_b l G (fX10_whole d) (fX10_both d) (fX10_compared d) (fX10_sum d) (fX10_product d) (fX10_one d) (2 + (d + 1)) (2 + d) (Nat.ble_eq.mpr (Nat.le_refl _)) (Nat.le_add_right _ _) ((mgX10_whole l G d).1) ((mgX10_whole l G d).2.1) ((mgX10_whole l G d).2.2.1) ((mgX10_whole l G d).2.2.2.1) ((mgX10_whole l G d).2.2.2.2.1) ((mgX10_whole l G d).2.2.2.2.2)  M, fun  M => mX10_sum_b l G (fX10_whole d) (fX10_both d) (fX10_compared d) (fX10_sum d) (fX10_product d) (fX10_one d) (2 + (d + 1)) (2 + d) (Nat.ble_eq.mpr (Nat.le_refl _)) (Nat.le_add_right _ _) ((mgX10_whole l G d).1) ((mgX10_whole l G d).2.1) ((mgX10_whole l G d).2.2.1) ((mgX10_whole l G d).2.2.2.1) ((mgX10_whole l G d).2.2.2.2.1) ((mgX10_whole l G d).2.2.2.2.2)  M, fun  M => mX10_product_b l G (fX10_whole d) (fX10_both d) (fX10_compared d) (fX10_sum d) (fX10_product d) (fX10_one d) (2 + (d + 1)) (2 + d) (Nat.ble_eq.mpr (Nat.le_refl _)) (Nat.le_add_right _ _) ((mgX10_whole l G d).1) ((mgX10_whole l G d).2.1) ((mgX10_whole l G d).2.2.1) ((mgX10_whole l G d).2.2.2.1) ((mgX10_whole l G d).2.2.2.2.1) ((mgX10_whole l G d).2.2.2.2.2)  M, fun  M => mX10_one_b l G (fX10_whole d) (fX10_both d) (fX10_compared d) (fX10_sum d) (fX10_product d) (fX10_one d) (2 + (d + 1)) (2 + d) (Nat.ble_eq.mpr (Nat.le_refl _)) (Nat.le_add_right _ _) ((mgX10_whole l G d).1) ((mgX10_whole l G d).2.1) ((mgX10_whole l G d).2.2.1) ((mgX10_whole l G d).2.2.2.1) ((mgX10_whole l G d).2.2.2.2.1) ((mgX10_whole l G d).2.2.2.2.2)  M⟩
theorem mX10_whole (l : Launch) (G : Gx) (d : Nat)  (M : Mm) : Mt cQz l layM G (2 + d) yX10_whole cX10_whole 1 (some .boolean) [rf G 0] M (fX10_whole d M) := (mgX10_whole l G d).1  M
theorem mX10_both (l : Launch) (G : Gx) (d : Nat)  (M : Mm) : Mt cQz l layM G (2 + d) yX10_both cX10_both 1 (some .boolean) [rf G 0] M (fX10_both d M) := (mgX10_whole l G d).2.1  M
theorem mX10_compared (l : Launch) (G : Gx) (d : Nat)  (M : Mm) : Mt cQz l layM G (2 + d) yX10_compared cX10_compared 2 (some .boolean) [rf G 0] M (fX10_compared d M) := (mgX10_whole l G d).2.2.1  M
theorem mX10_sum (l : Launch) (G : Gx) (d : Nat)  (M : Mm) : Mt cQz l layM G (2 + d) yX10_sum cX10_sum 2 (some .boolean) [rf G 0] M (fX10_sum d M) := (mgX10_whole l G d).2.2.2.1  M
theorem mX10_product (l : Launch) (G : Gx) (d : Nat)  (M : Mm) : Mt cQz l layM G (2 + d) yX10_product cX10_product 2 (some .boolean) [rf G 0] M (fX10_product d M) := (mgX10_whole l G d).2.2.2.2.1  M
theorem mX10_one (l : Launch) (G : Gx) (d : Nat)  (M : Mm) : Mt cQz l layM G (2 + d) yX10_one cX10_one 4 (some .boolean) [rf G 0] M (fX10_one d M) := (mgX10_whole l G d).2.2.2.2.2  M
