theorem dX9_isWithin_0 : decode cX9_isWithin 0 = .ok (.iload_n 0, 1) := by decide +kernel
theorem dX9_isWithin_1 : decode cX9_isWithin 1 = .ok (.iload_n 1, 1) := by decide +kernel
theorem dX9_isWithin_2 : decode cX9_isWithin 2 = .ok (.if_icmp .lt 12, 3) := by decide +kernel
theorem dX9_isWithin_5 : decode cX9_isWithin 5 = .ok (.iload_n 0, 1) := by decide +kernel
theorem dX9_isWithin_6 : decode cX9_isWithin 6 = .ok (.iload_n 2, 1) := by decide +kernel
theorem dX9_isWithin_7 : decode cX9_isWithin 7 = .ok (.if_icmp .gt 7, 3) := by decide +kernel
theorem dX9_isWithin_10 : decode cX9_isWithin 10 = .ok (.iconst 1, 1) := by decide +kernel
theorem dX9_isWithin_11 : decode cX9_isWithin 11 = .ok (.goto 4, 3) := by decide +kernel
theorem dX9_isWithin_14 : decode cX9_isWithin 14 = .ok (.iconst 0, 1) := by decide +kernel
theorem dX9_isWithin_15 : decode cX9_isWithin 15 = .ok (.ireturn, 1) := by decide +kernel
def fX9_isWithin_B15 (w0 : Int32) (M : Mm) : Option (Bool × Mm) :=
  gd (isb w0) (some (decide (w0 = 1), M))
theorem tX9_isWithin_B15 (l : Launch) (G : Gx) (w0 : Int32) (M : Mm) : Sim cQz l layC G 1 cX9_isWithin RX9 3 (some .boolean) 15 [] [.int w0] M (fX9_isWithin_B15 w0 M) := by
  unfold fX9_isWithin_B15
  exact s_zretI rfl dX9_isWithin_15
def fX9_isWithin_B14 (M : Mm) : Option (Bool × Mm) :=
  fX9_isWithin_B15 (0 : Int32) M
theorem tX9_isWithin_B14 (l : Launch) (G : Gx) (M : Mm) : Sim cQz l layC G 1 cX9_isWithin RX9 3 (some .boolean) 14 [] [] M (fX9_isWithin_B14 M) := by
  unfold fX9_isWithin_B14
  refine s_iconst (v := 0) dX9_isWithin_14 ci_0 ?_
  exact s_sub [] rfl (tX9_isWithin_B15 l G (0 : Int32) M)
def fX9_isWithin (a1 : Int32) (a2 : Int32) (a3 : Int32) (M : Mm) : Option (Bool × Mm) :=
  if a1 < a2 then (fX9_isWithin_B14 M)
  else if a3 < a1 then (fX9_isWithin_B14 M)
  else fX9_isWithin_B15 (1 : Int32) M
theorem mX9_isWithin (l : Launch) (G : Gx) (a1 : Int32) (a2 : Int32) (a3 : Int32) (M : Mm) : Mt cQz l layC G 1 yX9_isWithin cX9_isWithin 3 (some .boolean) [.int a1, .int a2, .int a3] M (fX9_isWithin a1 a2 a3 M) := by
  refine Mt.of2 (own := RX9) (lv := [(0, .int a1), (1, .int a2), (2, .int a3)]) rfl (by decide +kernel) rfl rfl ?_
  unfold fX9_isWithin
  refine s_iload_n 0 dX9_isWithin_0 rfl rfl ?_
  refine s_iload_n 1 dX9_isWithin_1 rfl rfl ?_
  refine s_icmplt (tgt := 14) dX9_isWithin_2 (by decide) ?_ ?_
  · exact s_sub [] rfl (tX9_isWithin_B14 l G M)
  · refine s_iload_n 0 dX9_isWithin_5 rfl rfl ?_
    refine s_iload_n 2 dX9_isWithin_6 rfl rfl ?_
    refine s_icmpgt (tgt := 14) dX9_isWithin_7 (by decide) ?_ ?_
    · exact s_sub [] rfl (tX9_isWithin_B14 l G M)
    · refine s_iconst (v := 1) dX9_isWithin_10 ci_1 ?_
      refine s_goto (tgt := 15) dX9_isWithin_11 (by decide) ?_
      exact s_sub [] rfl (tX9_isWithin_B15 l G (1 : Int32) M)
theorem dX5_at_0 : decode cX5_at 0 = .ok (.iload_n 1, 1) := by decide +kernel
theorem dX5_at_1 : decode cX5_at 1 = .ok (.iconst 0, 1) := by decide +kernel
theorem dX5_at_2 : decode cX5_at 2 = .ok (.aload_n 0, 1) := by decide +kernel
theorem dX5_at_3 : decode cX5_at 3 = .ok (.getfield 19, 3) := by decide +kernel
theorem dX5_at_6 : decode cX5_at 6 = .ok (.iconst 1, 1) := by decide +kernel
theorem dX5_at_7 : decode cX5_at 7 = .ok (.isub, 1) := by decide +kernel
theorem dX5_at_8 : decode cX5_at 8 = .ok (.invokestatic 23, 3) := by decide +kernel
theorem dX5_at_11 : decode cX5_at 11 = .ok (.ifCond .eq 12, 3) := by decide +kernel
theorem dX5_at_14 : decode cX5_at 14 = .ok (.aload_n 0, 1) := by decide +kernel
theorem dX5_at_15 : decode cX5_at 15 = .ok (.getfield 13, 3) := by decide +kernel
theorem dX5_at_18 : decode cX5_at 18 = .ok (.iload_n 1, 1) := by decide +kernel
theorem dX5_at_19 : decode cX5_at 19 = .ok (.iaload, 1) := by decide +kernel
theorem dX5_at_20 : decode cX5_at 20 = .ok (.goto 4, 3) := by decide +kernel
theorem dX5_at_23 : decode cX5_at 23 = .ok (.iconst 0, 1) := by decide +kernel
theorem dX5_at_24 : decode cX5_at 24 = .ok (.ireturn, 1) := by decide +kernel
def fX5_at_B24 (w0 : Int32) (M : Mm) : Option (Int32 × Mm) :=
  some (w0, M)
theorem tX5_at_B24 (l : Launch) (G : Gx) (w0 : Int32) (M : Mm) : Sim cQi l layC G 2 cX5_at RX5 2 (some .int) 24 [] [.int w0] M (fX5_at_B24 w0 M) := by
  unfold fX5_at_B24
  exact s_iret rfl dX5_at_24
def fX5_at (k0 : Nat) (a1 : Int32) (M : Mm) : Option (Int32 × Mm) :=
  gd (isC layC k0 5) <|
  bd (fX9_isWithin a1 (0 : Int32) ((M k0 1) - (1 : Int32)) M) fun r2 M3 =>
  if r2 = true then (gd (isN layC (fR layC k0 0) (aN layC (fR layC k0 0))) <|
  gd (inb a1 (aN layC (fR layC k0 0))) <|
  fX5_at_B24 (M3 (fR layC k0 0) (ix a1)) M3)
  else fX5_at_B24 (0 : Int32) M3
theorem mX5_at (l : Launch) (G : Gx) (k0 : Nat) (a1 : Int32) (M : Mm) : Mt cQi l layC G 2 yX5_at cX5_at 2 (some .int) [rf G k0, .int a1] M (fX5_at k0 a1 M) := by
  refine Mt.of2 (own := RX5) (lv := [(0, rf G k0), (1, .int a1)]) rfl (by decide +kernel) rfl rfl ?_
  unfold fX5_at
  refine s_iload_n 1 dX5_at_0 rfl rfl ?_
  refine s_iconst (v := 0) dX5_at_1 ci_0 ?_
  refine s_aload_n 0 dX5_at_2 rfl rfl ?_
  refine s_gd fun h1 => ?_
  refine g_X5_19 h1 dX5_at_3 ?_
  refine s_iconst (v := 1) dX5_at_6 ci_1 ?_
  refine s_isub dX5_at_7 ?_
  refine s_call_z (s_runSN (rest := []) (mX9_isWithin l G a1 (0 : Int32) ((M k0 1) - (1 : Int32)) M) ok_X9_isWithin k_X5_23 rfl rfl rfl rfl dX5_at_8) fun r2 M3 => ?_
  refine s_ifeqB (tgt := 23) dX5_at_11 (by decide) ?_ ?_
  · refine s_iconst (v := 0) dX5_at_23 ci_0 ?_
    exact s_sub [] rfl (tX5_at_B24 l G (0 : Int32) M3)
  · refine s_aload_n 0 dX5_at_14 rfl rfl ?_
    refine g_X5_13 (q := fR layC k0 0) h1 rfl dX5_at_15 ?_
    refine s_iload_n 1 dX5_at_18 rfl rfl ?_
    refine s_gd fun h4 => ?_
    refine s_gd fun h5 => ?_
    refine s_iald (n := (aN layC (fR layC k0 0))) h4 h5 dX5_at_19 ?_
    refine s_goto (tgt := 24) dX5_at_20 (by decide) ?_
    exact s_sub [] rfl (tX5_at_B24 l G (M3 (fR layC k0 0) (ix a1)) M3)
theorem dX9_hold_0 : decode cX9_hold 0 = .ok (.iload_n 0, 1) := by decide +kernel
theorem dX9_hold_1 : decode cX9_hold 1 = .ok (.iload_n 1, 1) := by decide +kernel
theorem dX9_hold_2 : decode cX9_hold 2 = .ok (.if_icmp .ge 5, 3) := by decide +kernel
theorem dX9_hold_5 : decode cX9_hold 5 = .ok (.iload_n 1, 1) := by decide +kernel
theorem dX9_hold_6 : decode cX9_hold 6 = .ok (.ireturn, 1) := by decide +kernel
theorem dX9_hold_7 : decode cX9_hold 7 = .ok (.iload_n 0, 1) := by decide +kernel
theorem dX9_hold_8 : decode cX9_hold 8 = .ok (.iload_n 2, 1) := by decide +kernel
theorem dX9_hold_9 : decode cX9_hold 9 = .ok (.if_icmp .le 7, 3) := by decide +kernel
theorem dX9_hold_12 : decode cX9_hold 12 = .ok (.iload_n 2, 1) := by decide +kernel
theorem dX9_hold_13 : decode cX9_hold 13 = .ok (.goto 4, 3) := by decide +kernel
theorem dX9_hold_16 : decode cX9_hold 16 = .ok (.iload_n 0, 1) := by decide +kernel
theorem dX9_hold_17 : decode cX9_hold 17 = .ok (.ireturn, 1) := by decide +kernel
def fX9_hold_B17 (w0 : Int32) (M : Mm) : Option (Int32 × Mm) :=
  some (w0, M)
theorem tX9_hold_B17 (l : Launch) (G : Gx) (w0 : Int32) (M : Mm) : Sim cQi l layC G 1 cX9_hold RX9 3 (some .int) 17 [] [.int w0] M (fX9_hold_B17 w0 M) := by
  unfold fX9_hold_B17
  exact s_iret rfl dX9_hold_17
def fX9_hold (a1 : Int32) (a2 : Int32) (a3 : Int32) (M : Mm) : Option (Int32 × Mm) :=
  if a2 ≤ a1 then (if a1 ≤ a3 then (fX9_hold_B17 a1 M)
  else fX9_hold_B17 a3 M)
  else some (a2, M)
theorem mX9_hold (l : Launch) (G : Gx) (a1 : Int32) (a2 : Int32) (a3 : Int32) (M : Mm) : Mt cQi l layC G 1 yX9_hold cX9_hold 3 (some .int) [.int a1, .int a2, .int a3] M (fX9_hold a1 a2 a3 M) := by
  refine Mt.of2 (own := RX9) (lv := [(0, .int a1), (1, .int a2), (2, .int a3)]) rfl (by decide +kernel) rfl rfl ?_
  unfold fX9_hold
  refine s_iload_n 0 dX9_hold_0 rfl rfl ?_
  refine s_iload_n 1 dX9_hold_1 rfl rfl ?_
  refine s_icmpge (tgt := 7) dX9_hold_2 (by decide) ?_ ?_
  · refine s_iload_n 0 dX9_hold_7 rfl rfl ?_
    refine s_iload_n 2 dX9_hold_8 rfl rfl ?_
    refine s_icmple (tgt := 16) dX9_hold_9 (by decide) ?_ ?_
    · refine s_iload_n 0 dX9_hold_16 rfl rfl ?_
      exact s_sub [] rfl (tX9_hold_B17 l G a1 M)
    · refine s_iload_n 2 dX9_hold_12 rfl rfl ?_
      refine s_goto (tgt := 17) dX9_hold_13 (by decide) ?_
      exact s_sub [] rfl (tX9_hold_B17 l G a3 M)
  · refine s_iload_n 1 dX9_hold_5 rfl rfl ?_
    exact s_iret rfl dX9_hold_6
theorem dX3_takeFrom_0 : decode cX3_takeFrom 0 = .ok (.aload_n 0, 1) := by decide +kernel
theorem dX3_takeFrom_1 : decode cX3_takeFrom 1 = .ok (.aload_n 1, 1) := by decide +kernel
theorem dX3_takeFrom_2 : decode cX3_takeFrom 2 = .ok (.getfield 15, 3) := by decide +kernel
theorem dX3_takeFrom_5 : decode cX3_takeFrom 5 = .ok (.putfield 15, 3) := by decide +kernel
theorem dX3_takeFrom_8 : decode cX3_takeFrom 8 = .ok (.aload_n 0, 1) := by decide +kernel
theorem dX3_takeFrom_9 : decode cX3_takeFrom 9 = .ok (.aload_n 1, 1) := by decide +kernel
theorem dX3_takeFrom_10 : decode cX3_takeFrom 10 = .ok (.getfield 18, 3) := by decide +kernel
theorem dX3_takeFrom_13 : decode cX3_takeFrom 13 = .ok (.putfield 18, 3) := by decide +kernel
theorem dX3_takeFrom_16 : decode cX3_takeFrom 16 = .ok (.aload_n 0, 1) := by decide +kernel
theorem dX3_takeFrom_17 : decode cX3_takeFrom 17 = .ok (.aload_n 1, 1) := by decide +kernel
theorem dX3_takeFrom_18 : decode cX3_takeFrom 18 = .ok (.getfield 21, 3) := by decide +kernel
theorem dX3_takeFrom_21 : decode cX3_takeFrom 21 = .ok (.putfield 21, 3) := by decide +kernel
theorem dX3_takeFrom_24 : decode cX3_takeFrom 24 = .ok (.aload_n 0, 1) := by decide +kernel
theorem dX3_takeFrom_25 : decode cX3_takeFrom 25 = .ok (.aload_n 1, 1) := by decide +kernel
theorem dX3_takeFrom_26 : decode cX3_takeFrom 26 = .ok (.getfield 24, 3) := by decide +kernel
theorem dX3_takeFrom_29 : decode cX3_takeFrom 29 = .ok (.putfield 24, 3) := by decide +kernel
theorem dX3_takeFrom_32 : decode cX3_takeFrom 32 = .ok (.aload_n 0, 1) := by decide +kernel
theorem dX3_takeFrom_33 : decode cX3_takeFrom 33 = .ok (.aload_n 1, 1) := by decide +kernel
theorem dX3_takeFrom_34 : decode cX3_takeFrom 34 = .ok (.getfield 27, 3) := by decide +kernel
theorem dX3_takeFrom_37 : decode cX3_takeFrom 37 = .ok (.putfield 27, 3) := by decide +kernel
theorem dX3_takeFrom_40 : decode cX3_takeFrom 40 = .ok (.aload_n 0, 1) := by decide +kernel
theorem dX3_takeFrom_41 : decode cX3_takeFrom 41 = .ok (.aload_n 1, 1) := by decide +kernel
theorem dX3_takeFrom_42 : decode cX3_takeFrom 42 = .ok (.getfield 9, 3) := by decide +kernel
theorem dX3_takeFrom_45 : decode cX3_takeFrom 45 = .ok (.putfield 9, 3) := by decide +kernel
theorem dX3_takeFrom_48 : decode cX3_takeFrom 48 = .ok (.aload_n 0, 1) := by decide +kernel
theorem dX3_takeFrom_49 : decode cX3_takeFrom 49 = .ok (.aload_n 1, 1) := by decide +kernel
theorem dX3_takeFrom_50 : decode cX3_takeFrom 50 = .ok (.getfield 30, 3) := by decide +kernel
theorem dX3_takeFrom_53 : decode cX3_takeFrom 53 = .ok (.putfield 30, 3) := by decide +kernel
theorem dX3_takeFrom_56 : decode cX3_takeFrom 56 = .ok (.return_, 1) := by decide +kernel
def fX3_takeFrom (k0 : Nat) (a1 : Nat) (M : Mm) : Option (Unit × Mm) :=
  gd (isC layC a1 3) <|
  gd (isC layC k0 3) <|
  lt (wr M k0 0 (M a1 0)) fun M3 =>
  lt (wr M3 k0 1 (M3 a1 1)) fun M4 =>
  lt (wr M4 k0 2 (M4 a1 2)) fun M5 =>
  lt (wr M5 k0 3 (M5 a1 3)) fun M6 =>
  lt (wr M6 k0 4 (M6 a1 4)) fun M7 =>
  lt (wr M7 k0 5 (M7 a1 5)) fun M8 =>
  lt (wr M8 k0 6 (M8 a1 6)) fun M9 =>
  some ((), M9)
theorem mX3_takeFrom (l : Launch) (G : Gx) (k0 : Nat) (a1 : Nat) (M : Mm) : Mt cQv l layC G 1 yX3_takeFrom cX3_takeFrom 2 none [rf G k0, rf G a1] M (fX3_takeFrom k0 a1 M) := by
  refine Mt.of2 (own := RX3) (lv := [(0, rf G k0), (1, rf G a1)]) rfl (by decide +kernel) rfl rfl ?_
  unfold fX3_takeFrom
  refine s_aload_n 0 dX3_takeFrom_0 rfl rfl ?_
  refine s_aload_n 1 dX3_takeFrom_1 rfl rfl ?_
  refine s_gd fun h1 => ?_
  refine g_X3_15 h1 dX3_takeFrom_2 ?_
  refine s_gd fun h2 => ?_
  refine p_X3_15 h2 dX3_takeFrom_5 ?_
  refine s_letM fun M3 => ?_
  refine s_aload_n 0 dX3_takeFrom_8 rfl rfl ?_
  refine s_aload_n 1 dX3_takeFrom_9 rfl rfl ?_
  refine g_X3_18 h1 dX3_takeFrom_10 ?_
  refine p_X3_18 h2 dX3_takeFrom_13 ?_
  refine s_letM fun M4 => ?_
  refine s_aload_n 0 dX3_takeFrom_16 rfl rfl ?_
  refine s_aload_n 1 dX3_takeFrom_17 rfl rfl ?_
  refine g_X3_21 h1 dX3_takeFrom_18 ?_
  refine p_X3_21 h2 dX3_takeFrom_21 ?_
  refine s_letM fun M5 => ?_
  refine s_aload_n 0 dX3_takeFrom_24 rfl rfl ?_
  refine s_aload_n 1 dX3_takeFrom_25 rfl rfl ?_
  refine g_X3_24 h1 dX3_takeFrom_26 ?_
  refine p_X3_24 h2 dX3_takeFrom_29 ?_
  refine s_letM fun M6 => ?_
  refine s_aload_n 0 dX3_takeFrom_32 rfl rfl ?_
  refine s_aload_n 1 dX3_takeFrom_33 rfl rfl ?_
  refine g_X3_27 h1 dX3_takeFrom_34 ?_
  refine p_X3_27 h2 dX3_takeFrom_37 ?_
  refine s_letM fun M7 => ?_
  refine s_aload_n 0 dX3_takeFrom_40 rfl rfl ?_
  refine s_aload_n 1 dX3_takeFrom_41 rfl rfl ?_
  refine g_X3_9 h1 dX3_takeFrom_42 ?_
  refine p_X3_9 h2 dX3_takeFrom_45 ?_
  refine s_letM fun M8 => ?_
  refine s_aload_n 0 dX3_takeFrom_48 rfl rfl ?_
  refine s_aload_n 1 dX3_takeFrom_49 rfl rfl ?_
  refine g_X3_30 h1 dX3_takeFrom_50 ?_
  refine p_X3_30 h2 dX3_takeFrom_53 ?_
  refine s_letM fun M9 => ?_
  exact s_vret rfl dX3_takeFrom_56
theorem dX9_isPage_0 : decode cX9_isPage 0 = .ok (.iload_n 0, 1) := by decide +kernel
theorem dX9_isPage_1 : decode cX9_isPage 1 = .ok (.iconst 0, 1) := by decide +kernel
theorem dX9_isPage_2 : decode cX9_isPage 2 = .ok (.iconst 3, 1) := by decide +kernel
theorem dX9_isPage_3 : decode cX9_isPage 3 = .ok (.invokestatic 83, 3) := by decide +kernel
theorem dX9_isPage_6 : decode cX9_isPage 6 = .ok (.ireturn, 1) := by decide +kernel
def fX9_isPage (a1 : Int32) (M : Mm) : Option (Bool × Mm) :=
  bd (fX9_isWithin a1 (0 : Int32) (3 : Int32) M) fun r1 M2 =>
  some (r1, M2)
theorem mX9_isPage (l : Launch) (G : Gx) (a1 : Int32) (M : Mm) : Mt cQz l layC G 2 yX9_isPage cX9_isPage 1 (some .boolean) [.int a1] M (fX9_isPage a1 M) := by
  refine Mt.of2 (own := RX9) (lv := [(0, .int a1)]) rfl (by decide +kernel) rfl rfl ?_
  unfold fX9_isPage
  refine s_iload_n 0 dX9_isPage_0 rfl rfl ?_
  refine s_iconst (v := 0) dX9_isPage_1 ci_0 ?_
  refine s_iconst (v := 3) dX9_isPage_2 ci_3 ?_
  refine s_call_z (s_runS (rest := []) (mX9_isWithin l G a1 (0 : Int32) (3 : Int32) M) ok_X9_isWithin k_X9_83 rfl rfl rfl rfl dX9_isPage_3) fun r1 M2 => ?_
  exact s_zretB rfl dX9_isPage_6
theorem dX9_quotient_0 : decode cX9_quotient 0 = .ok (.iload_n 1, 1) := by decide +kernel
theorem dX9_quotient_1 : decode cX9_quotient 1 = .ok (.ifCond .ne 7, 3) := by decide +kernel
theorem dX9_quotient_4 : decode cX9_quotient 4 = .ok (.iconst 0, 1) := by decide +kernel
theorem dX9_quotient_5 : decode cX9_quotient 5 = .ok (.goto 6, 3) := by decide +kernel
theorem dX9_quotient_8 : decode cX9_quotient 8 = .ok (.iload_n 0, 1) := by decide +kernel
theorem dX9_quotient_9 : decode cX9_quotient 9 = .ok (.iload_n 1, 1) := by decide +kernel
theorem dX9_quotient_10 : decode cX9_quotient 10 = .ok (.idiv, 1) := by decide +kernel
theorem dX9_quotient_11 : decode cX9_quotient 11 = .ok (.ireturn, 1) := by decide +kernel
def fX9_quotient_B11 (w0 : Int32) (M : Mm) : Option (Int32 × Mm) :=
  some (w0, M)
theorem tX9_quotient_B11 (l : Launch) (G : Gx) (w0 : Int32) (M : Mm) : Sim cQi l layC G 1 cX9_quotient RX9 2 (some .int) 11 [] [.int w0] M (fX9_quotient_B11 w0 M) := by
  unfold fX9_quotient_B11
  exact s_iret rfl dX9_quotient_11
def fX9_quotient (a1 : Int32) (a2 : Int32) (M : Mm) : Option (Int32 × Mm) :=
  if a2 = 0 then (fX9_quotient_B11 (0 : Int32) M)
  else gd (nz a2) <|
  fX9_quotient_B11 (a1 / a2) M
theorem mX9_quotient (l : Launch) (G : Gx) (a1 : Int32) (a2 : Int32) (M : Mm) : Mt cQi l layC G 1 yX9_quotient cX9_quotient 2 (some .int) [.int a1, .int a2] M (fX9_quotient a1 a2 M) := by
  refine Mt.of2 (own := RX9) (lv := [(0, .int a1), (1, .int a2)]) rfl (by decide +kernel) rfl rfl ?_
  unfold fX9_quotient
  refine s_iload_n 1 dX9_quotient_0 rfl rfl ?_
  refine s_ifne (tgt := 8) dX9_quotient_1 (by decide) ?_ ?_
  · refine s_iload_n 0 dX9_quotient_8 rfl rfl ?_
    refine s_iload_n 1 dX9_quotient_9 rfl rfl ?_
    refine s_gd fun h1 => ?_
    refine s_idiv dX9_quotient_10 h1 ?_
    exact s_sub [] rfl (tX9_quotient_B11 l G (a1 / a2) M)
  · refine s_iconst (v := 0) dX9_quotient_4 ci_0 ?_
    refine s_goto (tgt := 11) dX9_quotient_5 (by decide) ?_
    exact s_sub [] rfl (tX9_quotient_B11 l G (0 : Int32) M)
theorem dX3_reads_0 : decode cX3_reads 0 = .ok (.aload_n 0, 1) := by decide +kernel
theorem dX3_reads_1 : decode cX3_reads 1 = .ok (.getfield 24, 3) := by decide +kernel
theorem dX3_reads_4 : decode cX3_reads 4 = .ok (.aload_n 0, 1) := by decide +kernel
theorem dX3_reads_5 : decode cX3_reads 5 = .ok (.getfield 15, 3) := by decide +kernel
theorem dX3_reads_8 : decode cX3_reads 8 = .ok (.iconst 4, 1) := by decide +kernel
theorem dX3_reads_9 : decode cX3_reads 9 = .ok (.if_icmp .ne 8, 3) := by decide +kernel
theorem dX3_reads_12 : decode cX3_reads 12 = .ok (.bipush 10, 2) := by decide +kernel
theorem dX3_reads_14 : decode cX3_reads 14 = .ok (.goto 10, 3) := by decide +kernel
theorem dX3_reads_17 : decode cX3_reads 17 = .ok (.bipush 10, 2) := by decide +kernel
theorem dX3_reads_19 : decode cX3_reads 19 = .ok (.aload_n 0, 1) := by decide +kernel
theorem dX3_reads_20 : decode cX3_reads 20 = .ok (.getfield 18, 3) := by decide +kernel
theorem dX3_reads_23 : decode cX3_reads 23 = .ok (.iadd, 1) := by decide +kernel
theorem dX3_reads_24 : decode cX3_reads 24 = .ok (.invokestatic 47, 3) := by decide +kernel
theorem dX3_reads_27 : decode cX3_reads 27 = .ok (.istore_n 1, 1) := by decide +kernel
theorem dX3_reads_28 : decode cX3_reads 28 = .ok (.aload_n 0, 1) := by decide +kernel
theorem dX3_reads_29 : decode cX3_reads 29 = .ok (.getfield 15, 3) := by decide +kernel
theorem dX3_reads_32 : decode cX3_reads 32 = .ok (.iconst 2, 1) := by decide +kernel
theorem dX3_reads_33 : decode cX3_reads 33 = .ok (.if_icmp .eq 11, 3) := by decide +kernel
theorem dX3_reads_36 : decode cX3_reads 36 = .ok (.aload_n 0, 1) := by decide +kernel
theorem dX3_reads_37 : decode cX3_reads 37 = .ok (.getfield 15, 3) := by decide +kernel
theorem dX3_reads_40 : decode cX3_reads 40 = .ok (.iconst 4, 1) := by decide +kernel
theorem dX3_reads_41 : decode cX3_reads 41 = .ok (.if_icmp .ne 18, 3) := by decide +kernel
theorem dX3_reads_44 : decode cX3_reads 44 = .ok (.iload_n 1, 1) := by decide +kernel
theorem dX3_reads_45 : decode cX3_reads 45 = .ok (.iload_n 1, 1) := by decide +kernel
theorem dX3_reads_46 : decode cX3_reads 46 = .ok (.ifCond .le 7, 3) := by decide +kernel
theorem dX3_reads_49 : decode cX3_reads 49 = .ok (.iconst 1, 1) := by decide +kernel
theorem dX3_reads_50 : decode cX3_reads 50 = .ok (.goto 4, 3) := by decide +kernel
theorem dX3_reads_53 : decode cX3_reads 53 = .ok (.iconst 0, 1) := by decide +kernel
theorem dX3_reads_54 : decode cX3_reads 54 = .ok (.iadd, 1) := by decide +kernel
theorem dX3_reads_55 : decode cX3_reads 55 = .ok (.istore_n 1, 1) := by decide +kernel
theorem dX3_reads_56 : decode cX3_reads 56 = .ok (.goto 14, 3) := by decide +kernel
theorem dX3_reads_59 : decode cX3_reads 59 = .ok (.aload_n 0, 1) := by decide +kernel
theorem dX3_reads_60 : decode cX3_reads 60 = .ok (.getfield 15, 3) := by decide +kernel
theorem dX3_reads_63 : decode cX3_reads 63 = .ok (.iconst 5, 1) := by decide +kernel
theorem dX3_reads_64 : decode cX3_reads 64 = .ok (.if_icmp .ne 6, 3) := by decide +kernel
theorem dX3_reads_67 : decode cX3_reads 67 = .ok (.iinc 1 (-1), 3) := by decide +kernel
theorem dX3_reads_70 : decode cX3_reads 70 = .ok (.iload_n 1, 1) := by decide +kernel
theorem dX3_reads_71 : decode cX3_reads 71 = .ok (.iconst 0, 1) := by decide +kernel
theorem dX3_reads_72 : decode cX3_reads 72 = .ok (.bipush 9, 2) := by decide +kernel
theorem dX3_reads_74 : decode cX3_reads 74 = .ok (.invokestatic 50, 3) := by decide +kernel
theorem dX3_reads_77 : decode cX3_reads 77 = .ok (.ireturn, 1) := by decide +kernel
def fX3_reads_B70 (v1 : Int32) (M : Mm) : Option (Int32 × Mm) :=
  bd (fX9_hold v1 (0 : Int32) (9 : Int32) M) fun r6 M7 =>
  some (r6, M7)
theorem tX3_reads_B70 (l : Launch) (G : Gx) (v1 : Int32) (M : Mm) : Sim cQi l layC G 2 cX3_reads RX3 2 (some .int) 70 [(1, .int v1)] [] M (fX3_reads_B70 v1 M) := by
  unfold fX3_reads_B70
  refine s_iload_n 0 dX3_reads_70 rfl rfl ?_
  refine s_iconst (v := 0) dX3_reads_71 ci_0 ?_
  refine s_bipush (v := 9) dX3_reads_72 cb_9 ?_
  refine s_call_i (s_runSN (rest := []) (mX9_hold l G v1 (0 : Int32) (9 : Int32) M) ok_X9_hold k_X3_50 rfl rfl rfl rfl dX3_reads_74) fun r6 M7 => ?_
  exact s_iret rfl dX3_reads_77
def fX3_reads_B54 (w0 : Int32) (w1 : Int32) (M : Mm) : Option (Int32 × Mm) :=
  lt (w1 + w0) fun x5 =>
  fX3_reads_B70 x5 M
theorem tX3_reads_B54 (l : Launch) (G : Gx) (w0 : Int32) (w1 : Int32) (M : Mm) : Sim cQi l layC G 2 cX3_reads RX3 2 (some .int) 54 [] [.int w0, .int w1] M (fX3_reads_B54 w0 w1 M) := by
  unfold fX3_reads_B54
  refine s_iadd dX3_reads_54 ?_
  refine s_leti fun x5 => ?_
  refine s_istore_n (lv' := [(1, .int x5)]) dX3_reads_55 rfl rfl rfl ?_
  refine s_goto (tgt := 70) dX3_reads_56 (by decide) ?_
  exact s_sub [0] rfl (tX3_reads_B70 l G x5 M)
def fX3_reads_B44 (v1 : Int32) (M : Mm) : Option (Int32 × Mm) :=
  if v1 ≤ 0 then (fX3_reads_B54 (0 : Int32) v1 M)
  else fX3_reads_B54 (1 : Int32) v1 M
theorem tX3_reads_B44 (l : Launch) (G : Gx) (v1 : Int32) (M : Mm) : Sim cQi l layC G 2 cX3_reads RX3 2 (some .int) 44 [(1, .int v1)] [] M (fX3_reads_B44 v1 M) := by
  unfold fX3_reads_B44
  refine s_iload_n 0 dX3_reads_44 rfl rfl ?_
  refine s_iload_n 0 dX3_reads_45 rfl rfl ?_
  refine s_ifle (tgt := 53) dX3_reads_46 (by decide) ?_ ?_
  · refine s_iconst (v := 0) dX3_reads_53 ci_0 ?_
    exact s_sub [] rfl (tX3_reads_B54 l G (0 : Int32) v1 M)
  · refine s_iconst (v := 1) dX3_reads_49 ci_1 ?_
    refine s_goto (tgt := 54) dX3_reads_50 (by decide) ?_
    exact s_sub [] rfl (tX3_reads_B54 l G (1 : Int32) v1 M)
def fX3_reads_B24 (v0 : Nat) (w0 : Int32) (w1 : Int32) (M : Mm) : Option (Int32 × Mm) :=
  bd (fX9_quotient w1 w0 M) fun r2 M3 =>
  gd (isC layC v0 3) <|
  if (M3 v0 0) = (2 : Int32) then (fX3_reads_B44 r2 M3)
  else if (M3 v0 0) = (4 : Int32) then (fX3_reads_B44 r2 M3)
  else if (M3 v0 0) = (5 : Int32) then (fX3_reads_B70 (r2 + (-1)) M3)
  else fX3_reads_B70 r2 M3
theorem tX3_reads_B24 (l : Launch) (G : Gx) (v0 : Nat) (w0 : Int32) (w1 : Int32) (M : Mm) : Sim cQi l layC G 2 cX3_reads RX3 2 (some .int) 24 [(0, rf G v0)] [.int w0, .int w1] M (fX3_reads_B24 v0 w0 w1 M) := by
  unfold fX3_reads_B24
  refine s_call_i (s_runSN (rest := []) (mX9_quotient l G w1 w0 M) ok_X9_quotient k_X3_47 rfl rfl rfl rfl dX3_reads_24) fun r2 M3 => ?_
  refine s_istore_n (lv' := [(1, .int r2), (0, rf G v0)]) dX3_reads_27 rfl rfl rfl ?_
  refine s_aload_n 1 dX3_reads_28 rfl rfl ?_
  refine s_gd fun h4 => ?_
  refine g_X3_15 h4 dX3_reads_29 ?_
  refine s_iconst (v := 2) dX3_reads_32 ci_2 ?_
  refine s_icmpeq (tgt := 44) dX3_reads_33 (by decide) ?_ ?_
  · exact s_sub [0] rfl (tX3_reads_B44 l G r2 M3)
  · refine s_aload_n 1 dX3_reads_36 rfl rfl ?_
    refine g_X3_15 h4 dX3_reads_37 ?_
    refine s_iconst (v := 4) dX3_reads_40 ci_4 ?_
    refine s_icmpne (tgt := 59) dX3_reads_41 (by decide) ?_ ?_
    · refine s_aload_n 1 dX3_reads_59 rfl rfl ?_
      refine g_X3_15 h4 dX3_reads_60 ?_
      refine s_iconst (v := 5) dX3_reads_63 ci_5 ?_
      refine s_icmpne (tgt := 70) dX3_reads_64 (by decide) ?_ ?_
      · exact s_sub [0] rfl (tX3_reads_B70 l G r2 M3)
      · refine s_iinc (k := 0) (lv' := [(1, .int (r2 + (-1))), (0, rf G v0)]) dX3_reads_67 rfl ci_m1 rfl rfl ?_
        exact s_sub [0] rfl (tX3_reads_B70 l G (r2 + (-1)) M3)
    · exact s_sub [0] rfl (tX3_reads_B44 l G r2 M3)
def fX3_reads (k0 : Nat) (M : Mm) : Option (Int32 × Mm) :=
  gd (isC layC k0 3) <|
  if (M k0 0) = (4 : Int32) then (fX3_reads_B24 k0 (10 : Int32) (M k0 3) M)
  else fX3_reads_B24 k0 ((10 : Int32) + (M k0 1)) (M k0 3) M
theorem mX3_reads (l : Launch) (G : Gx) (k0 : Nat) (M : Mm) : Mt cQi l layC G 2 yX3_reads cX3_reads 2 (some .int) [rf G k0] M (fX3_reads k0 M) := by
  refine Mt.of2 (own := RX3) (lv := [(0, rf G k0)]) rfl (by decide +kernel) rfl rfl ?_
  unfold fX3_reads
  refine s_aload_n 0 dX3_reads_0 rfl rfl ?_
  refine s_gd fun h1 => ?_
  refine g_X3_24 h1 dX3_reads_1 ?_
  refine s_aload_n 0 dX3_reads_4 rfl rfl ?_
  refine g_X3_15 h1 dX3_reads_5 ?_
  refine s_iconst (v := 4) dX3_reads_8 ci_4 ?_
  refine s_icmpne (tgt := 17) dX3_reads_9 (by decide) ?_ ?_
  · refine s_bipush (v := 10) dX3_reads_17 cb_10 ?_
    refine s_aload_n 0 dX3_reads_19 rfl rfl ?_
    refine g_X3_18 h1 dX3_reads_20 ?_
    refine s_iadd dX3_reads_23 ?_
    exact s_sub [0] rfl (tX3_reads_B24 l G k0 ((10 : Int32) + (M k0 1)) (M k0 3) M)
  · refine s_bipush (v := 10) dX3_reads_12 cb_10 ?_
    refine s_goto (tgt := 24) dX3_reads_14 (by decide) ?_
    exact s_sub [0] rfl (tX3_reads_B24 l G k0 (10 : Int32) (M k0 3) M)
theorem dX1_isTold_0 : decode cX1_isTold 0 = .ok (.aload_n 0, 1) := by decide +kernel
theorem dX1_isTold_1 : decode cX1_isTold 1 = .ok (.getfield 14, 3) := by decide +kernel
theorem dX1_isTold_4 : decode cX1_isTold 4 = .ok (.getfield 27, 3) := by decide +kernel
theorem dX1_isTold_7 : decode cX1_isTold 7 = .ok (.ifCond .le 7, 3) := by decide +kernel
theorem dX1_isTold_10 : decode cX1_isTold 10 = .ok (.iconst 1, 1) := by decide +kernel
theorem dX1_isTold_11 : decode cX1_isTold 11 = .ok (.goto 4, 3) := by decide +kernel
theorem dX1_isTold_14 : decode cX1_isTold 14 = .ok (.iconst 0, 1) := by decide +kernel
theorem dX1_isTold_15 : decode cX1_isTold 15 = .ok (.ireturn, 1) := by decide +kernel
def fX1_isTold_B15 (w0 : Int32) (M : Mm) : Option (Bool × Mm) :=
  gd (isb w0) (some (decide (w0 = 1), M))
theorem tX1_isTold_B15 (l : Launch) (G : Gx) (w0 : Int32) (M : Mm) : Sim cQz l layC G 1 cX1_isTold RX1 1 (some .boolean) 15 [] [.int w0] M (fX1_isTold_B15 w0 M) := by
  unfold fX1_isTold_B15
  exact s_zretI rfl dX1_isTold_15
def fX1_isTold (k0 : Nat) (M : Mm) : Option (Bool × Mm) :=
  gd (isC layC k0 1) <|
  gd (isC layC (fR layC k0 0) 5) <|
  if (M (fR layC k0 0) 1) ≤ 0 then (fX1_isTold_B15 (0 : Int32) M)
  else fX1_isTold_B15 (1 : Int32) M
theorem mX1_isTold (l : Launch) (G : Gx) (k0 : Nat) (M : Mm) : Mt cQz l layC G 1 yX1_isTold cX1_isTold 1 (some .boolean) [rf G k0] M (fX1_isTold k0 M) := by
  refine Mt.of2 (own := RX1) (lv := [(0, rf G k0)]) rfl (by decide +kernel) rfl rfl ?_
  unfold fX1_isTold
  refine s_aload_n 0 dX1_isTold_0 rfl rfl ?_
  refine s_gd fun h1 => ?_
  refine g_X1_14 (q := fR layC k0 0) h1 rfl dX1_isTold_1 ?_
  refine s_gd fun h2 => ?_
  refine g_X1_27 h2 dX1_isTold_4 ?_
  refine s_ifle (tgt := 14) dX1_isTold_7 (by decide) ?_ ?_
  · refine s_iconst (v := 0) dX1_isTold_14 ci_0 ?_
    exact s_sub [] rfl (tX1_isTold_B15 l G (0 : Int32) M)
  · refine s_iconst (v := 1) dX1_isTold_10 ci_1 ?_
    refine s_goto (tgt := 15) dX1_isTold_11 (by decide) ?_
    exact s_sub [] rfl (tX1_isTold_B15 l G (1 : Int32) M)
theorem dX1_join_0 : decode cX1_join 0 = .ok (.iload_n 0, 1) := by decide +kernel
theorem dX1_join_1 : decode cX1_join 1 = .ok (.lookupswitch 168 #[(38, 97), (42, 152), (43, 144), (45, 148), (47, 156), (60, 111), (61, 122), (62, 133), (124, 83)], 83) := by decide +kernel
theorem dX1_join_84 : decode cX1_join 84 = .ok (.iload_n 1, 1) := by decide +kernel
theorem dX1_join_85 : decode cX1_join 85 = .ok (.ifCond .ne 7, 3) := by decide +kernel
theorem dX1_join_88 : decode cX1_join 88 = .ok (.iload_n 2, 1) := by decide +kernel
theorem dX1_join_89 : decode cX1_join 89 = .ok (.ifCond .eq 7, 3) := by decide +kernel
theorem dX1_join_92 : decode cX1_join 92 = .ok (.iconst 1, 1) := by decide +kernel
theorem dX1_join_93 : decode cX1_join 93 = .ok (.goto 4, 3) := by decide +kernel
theorem dX1_join_96 : decode cX1_join 96 = .ok (.iconst 0, 1) := by decide +kernel
theorem dX1_join_97 : decode cX1_join 97 = .ok (.ireturn, 1) := by decide +kernel
theorem dX1_join_98 : decode cX1_join 98 = .ok (.iload_n 1, 1) := by decide +kernel
theorem dX1_join_99 : decode cX1_join 99 = .ok (.ifCond .eq 11, 3) := by decide +kernel
theorem dX1_join_102 : decode cX1_join 102 = .ok (.iload_n 2, 1) := by decide +kernel
theorem dX1_join_103 : decode cX1_join 103 = .ok (.ifCond .eq 7, 3) := by decide +kernel
theorem dX1_join_106 : decode cX1_join 106 = .ok (.iconst 1, 1) := by decide +kernel
theorem dX1_join_107 : decode cX1_join 107 = .ok (.goto 4, 3) := by decide +kernel
theorem dX1_join_110 : decode cX1_join 110 = .ok (.iconst 0, 1) := by decide +kernel
theorem dX1_join_111 : decode cX1_join 111 = .ok (.ireturn, 1) := by decide +kernel
theorem dX1_join_112 : decode cX1_join 112 = .ok (.iload_n 1, 1) := by decide +kernel
theorem dX1_join_113 : decode cX1_join 113 = .ok (.iload_n 2, 1) := by decide +kernel
theorem dX1_join_114 : decode cX1_join 114 = .ok (.if_icmp .ge 7, 3) := by decide +kernel
theorem dX1_join_117 : decode cX1_join 117 = .ok (.iconst 1, 1) := by decide +kernel
theorem dX1_join_118 : decode cX1_join 118 = .ok (.goto 4, 3) := by decide +kernel
theorem dX1_join_121 : decode cX1_join 121 = .ok (.iconst 0, 1) := by decide +kernel
theorem dX1_join_122 : decode cX1_join 122 = .ok (.ireturn, 1) := by decide +kernel
theorem dX1_join_123 : decode cX1_join 123 = .ok (.iload_n 1, 1) := by decide +kernel
theorem dX1_join_124 : decode cX1_join 124 = .ok (.iload_n 2, 1) := by decide +kernel
theorem dX1_join_125 : decode cX1_join 125 = .ok (.if_icmp .ne 7, 3) := by decide +kernel
theorem dX1_join_128 : decode cX1_join 128 = .ok (.iconst 1, 1) := by decide +kernel
theorem dX1_join_129 : decode cX1_join 129 = .ok (.goto 4, 3) := by decide +kernel
theorem dX1_join_132 : decode cX1_join 132 = .ok (.iconst 0, 1) := by decide +kernel
theorem dX1_join_133 : decode cX1_join 133 = .ok (.ireturn, 1) := by decide +kernel
theorem dX1_join_134 : decode cX1_join 134 = .ok (.iload_n 1, 1) := by decide +kernel
theorem dX1_join_135 : decode cX1_join 135 = .ok (.iload_n 2, 1) := by decide +kernel
theorem dX1_join_136 : decode cX1_join 136 = .ok (.if_icmp .le 7, 3) := by decide +kernel
theorem dX1_join_139 : decode cX1_join 139 = .ok (.iconst 1, 1) := by decide +kernel
theorem dX1_join_140 : decode cX1_join 140 = .ok (.goto 4, 3) := by decide +kernel
theorem dX1_join_143 : decode cX1_join 143 = .ok (.iconst 0, 1) := by decide +kernel
theorem dX1_join_144 : decode cX1_join 144 = .ok (.ireturn, 1) := by decide +kernel
theorem dX1_join_145 : decode cX1_join 145 = .ok (.iload_n 1, 1) := by decide +kernel
theorem dX1_join_146 : decode cX1_join 146 = .ok (.iload_n 2, 1) := by decide +kernel
theorem dX1_join_147 : decode cX1_join 147 = .ok (.iadd, 1) := by decide +kernel
theorem dX1_join_148 : decode cX1_join 148 = .ok (.ireturn, 1) := by decide +kernel
theorem dX1_join_149 : decode cX1_join 149 = .ok (.iload_n 1, 1) := by decide +kernel
theorem dX1_join_150 : decode cX1_join 150 = .ok (.iload_n 2, 1) := by decide +kernel
theorem dX1_join_151 : decode cX1_join 151 = .ok (.isub, 1) := by decide +kernel
theorem dX1_join_152 : decode cX1_join 152 = .ok (.ireturn, 1) := by decide +kernel
theorem dX1_join_153 : decode cX1_join 153 = .ok (.iload_n 1, 1) := by decide +kernel
theorem dX1_join_154 : decode cX1_join 154 = .ok (.iload_n 2, 1) := by decide +kernel
theorem dX1_join_155 : decode cX1_join 155 = .ok (.imul, 1) := by decide +kernel
theorem dX1_join_156 : decode cX1_join 156 = .ok (.ireturn, 1) := by decide +kernel
theorem dX1_join_157 : decode cX1_join 157 = .ok (.iload_n 2, 1) := by decide +kernel
theorem dX1_join_158 : decode cX1_join 158 = .ok (.ifCond .ne 7, 3) := by decide +kernel
theorem dX1_join_161 : decode cX1_join 161 = .ok (.iconst 0, 1) := by decide +kernel
theorem dX1_join_162 : decode cX1_join 162 = .ok (.goto 6, 3) := by decide +kernel
theorem dX1_join_165 : decode cX1_join 165 = .ok (.iload_n 1, 1) := by decide +kernel
theorem dX1_join_166 : decode cX1_join 166 = .ok (.iload_n 2, 1) := by decide +kernel
theorem dX1_join_167 : decode cX1_join 167 = .ok (.idiv, 1) := by decide +kernel
theorem dX1_join_168 : decode cX1_join 168 = .ok (.ireturn, 1) := by decide +kernel
theorem dX1_join_169 : decode cX1_join 169 = .ok (.iload_n 2, 1) := by decide +kernel
theorem dX1_join_170 : decode cX1_join 170 = .ok (.ifCond .ne 7, 3) := by decide +kernel
theorem dX1_join_173 : decode cX1_join 173 = .ok (.iconst 0, 1) := by decide +kernel
theorem dX1_join_174 : decode cX1_join 174 = .ok (.goto 6, 3) := by decide +kernel
theorem dX1_join_177 : decode cX1_join 177 = .ok (.iload_n 1, 1) := by decide +kernel
theorem dX1_join_178 : decode cX1_join 178 = .ok (.iload_n 2, 1) := by decide +kernel
theorem dX1_join_179 : decode cX1_join 179 = .ok (.irem, 1) := by decide +kernel
theorem dX1_join_180 : decode cX1_join 180 = .ok (.ireturn, 1) := by decide +kernel
def fX1_join_B111 (w0 : Int32) (M : Mm) : Option (Int32 × Mm) :=
  some (w0, M)
theorem tX1_join_B111 (l : Launch) (G : Gx) (w0 : Int32) (M : Mm) : Sim cQi l layC G 1 cX1_join RX1 3 (some .int) 111 [] [.int w0] M (fX1_join_B111 w0 M) := by
  unfold fX1_join_B111
  exact s_iret rfl dX1_join_111
def fX1_join_B110 (M : Mm) : Option (Int32 × Mm) :=
  fX1_join_B111 (0 : Int32) M
theorem tX1_join_B110 (l : Launch) (G : Gx) (M : Mm) : Sim cQi l layC G 1 cX1_join RX1 3 (some .int) 110 [] [] M (fX1_join_B110 M) := by
  unfold fX1_join_B110
  refine s_iconst (v := 0) dX1_join_110 ci_0 ?_
  exact s_sub [] rfl (tX1_join_B111 l G (0 : Int32) M)
def fX1_join_B168 (w0 : Int32) (M : Mm) : Option (Int32 × Mm) :=
  some (w0, M)
theorem tX1_join_B168 (l : Launch) (G : Gx) (w0 : Int32) (M : Mm) : Sim cQi l layC G 1 cX1_join RX1 3 (some .int) 168 [] [.int w0] M (fX1_join_B168 w0 M) := by
  unfold fX1_join_B168
  exact s_iret rfl dX1_join_168
def fX1_join_B122 (w0 : Int32) (M : Mm) : Option (Int32 × Mm) :=
  some (w0, M)
theorem tX1_join_B122 (l : Launch) (G : Gx) (w0 : Int32) (M : Mm) : Sim cQi l layC G 1 cX1_join RX1 3 (some .int) 122 [] [.int w0] M (fX1_join_B122 w0 M) := by
  unfold fX1_join_B122
  exact s_iret rfl dX1_join_122
def fX1_join_B133 (w0 : Int32) (M : Mm) : Option (Int32 × Mm) :=
  some (w0, M)
theorem tX1_join_B133 (l : Launch) (G : Gx) (w0 : Int32) (M : Mm) : Sim cQi l layC G 1 cX1_join RX1 3 (some .int) 133 [] [.int w0] M (fX1_join_B133 w0 M) := by
  unfold fX1_join_B133
  exact s_iret rfl dX1_join_133
def fX1_join_B144 (w0 : Int32) (M : Mm) : Option (Int32 × Mm) :=
  some (w0, M)
theorem tX1_join_B144 (l : Launch) (G : Gx) (w0 : Int32) (M : Mm) : Sim cQi l layC G 1 cX1_join RX1 3 (some .int) 144 [] [.int w0] M (fX1_join_B144 w0 M) := by
  unfold fX1_join_B144
  exact s_iret rfl dX1_join_144
def fX1_join_B97 (w0 : Int32) (M : Mm) : Option (Int32 × Mm) :=
  some (w0, M)
theorem tX1_join_B97 (l : Launch) (G : Gx) (w0 : Int32) (M : Mm) : Sim cQi l layC G 1 cX1_join RX1 3 (some .int) 97 [] [.int w0] M (fX1_join_B97 w0 M) := by
  unfold fX1_join_B97
  exact s_iret rfl dX1_join_97
def fX1_join_B92 (M : Mm) : Option (Int32 × Mm) :=
  fX1_join_B97 (1 : Int32) M
theorem tX1_join_B92 (l : Launch) (G : Gx) (M : Mm) : Sim cQi l layC G 1 cX1_join RX1 3 (some .int) 92 [] [] M (fX1_join_B92 M) := by
  unfold fX1_join_B92
  refine s_iconst (v := 1) dX1_join_92 ci_1 ?_
  refine s_goto (tgt := 97) dX1_join_93 (by decide) ?_
  exact s_sub [] rfl (tX1_join_B97 l G (1 : Int32) M)
def fX1_join_B180 (w0 : Int32) (M : Mm) : Option (Int32 × Mm) :=
  some (w0, M)
theorem tX1_join_B180 (l : Launch) (G : Gx) (w0 : Int32) (M : Mm) : Sim cQi l layC G 1 cX1_join RX1 3 (some .int) 180 [] [.int w0] M (fX1_join_B180 w0 M) := by
  unfold fX1_join_B180
  exact s_iret rfl dX1_join_180
def fX1_join (a1 : Int32) (a2 : Int32) (a3 : Int32) (M : Mm) : Option (Int32 × Mm) :=
  if a1 = 38 then (if a2 = 0 then (fX1_join_B110 M)
  else if a3 = 0 then (fX1_join_B110 M)
  else fX1_join_B111 (1 : Int32) M)
  else if a1 = 42 then (some (a2 * a3, M))
  else if a1 = 43 then (some (a2 + a3, M))
  else if a1 = 45 then (some (a2 - a3, M))
  else if a1 = 47 then (if a3 = 0 then (fX1_join_B168 (0 : Int32) M)
  else gd (nz a3) <|
  fX1_join_B168 (a2 / a3) M)
  else if a1 = 60 then (if a3 ≤ a2 then (fX1_join_B122 (0 : Int32) M)
  else fX1_join_B122 (1 : Int32) M)
  else if a1 = 61 then (if a2 = a3 then (fX1_join_B133 (1 : Int32) M)
  else fX1_join_B133 (0 : Int32) M)
  else if a1 = 62 then (if a2 ≤ a3 then (fX1_join_B144 (0 : Int32) M)
  else fX1_join_B144 (1 : Int32) M)
  else if a1 = 124 then (if a2 = 0 then (if a3 = 0 then (fX1_join_B97 (0 : Int32) M)
  else fX1_join_B92 M)
  else fX1_join_B92 M)
  else if a3 = 0 then (fX1_join_B180 (0 : Int32) M)
  else gd (nz a3) <|
  fX1_join_B180 (a2 - a2 / a3 * a3) M
theorem mX1_join (l : Launch) (G : Gx) (a1 : Int32) (a2 : Int32) (a3 : Int32) (M : Mm) : Mt cQi l layC G 1 yX1_join cX1_join 3 (some .int) [.int a1, .int a2, .int a3] M (fX1_join a1 a2 a3 M) := by
  refine Mt.of2 (own := RX1) (lv := [(0, .int a1), (1, .int a2), (2, .int a3)]) rfl (by decide +kernel) rfl rfl ?_
  unfold fX1_join
  refine s_iload_n 0 dX1_join_0 rfl rfl ?_
  refine s_lookup (tgt := 169) dX1_join_1 (by decide) (by decide) (by decide) ?_
  refine lk_cons (k := 38) (tgt := 98) (by decide) (by decide) ?_ ?_
  · refine s_iload_n 1 dX1_join_98 rfl rfl ?_
    refine s_ifeq (tgt := 110) dX1_join_99 (by decide) ?_ ?_
    · exact s_sub [] rfl (tX1_join_B110 l G M)
    · refine s_iload_n 2 dX1_join_102 rfl rfl ?_
      refine s_ifeq (tgt := 110) dX1_join_103 (by decide) ?_ ?_
      · exact s_sub [] rfl (tX1_join_B110 l G M)
      · refine s_iconst (v := 1) dX1_join_106 ci_1 ?_
        refine s_goto (tgt := 111) dX1_join_107 (by decide) ?_
        exact s_sub [] rfl (tX1_join_B111 l G (1 : Int32) M)
  refine lk_cons (k := 42) (tgt := 153) (by decide) (by decide) ?_ ?_
  · refine s_iload_n 1 dX1_join_153 rfl rfl ?_
    refine s_iload_n 2 dX1_join_154 rfl rfl ?_
    refine s_imul dX1_join_155 ?_
    exact s_iret rfl dX1_join_156
  refine lk_cons (k := 43) (tgt := 145) (by decide) (by decide) ?_ ?_
  · refine s_iload_n 1 dX1_join_145 rfl rfl ?_
    refine s_iload_n 2 dX1_join_146 rfl rfl ?_
    refine s_iadd dX1_join_147 ?_
    exact s_iret rfl dX1_join_148
  refine lk_cons (k := 45) (tgt := 149) (by decide) (by decide) ?_ ?_
  · refine s_iload_n 1 dX1_join_149 rfl rfl ?_
    refine s_iload_n 2 dX1_join_150 rfl rfl ?_
    refine s_isub dX1_join_151 ?_
    exact s_iret rfl dX1_join_152
  refine lk_cons (k := 47) (tgt := 157) (by decide) (by decide) ?_ ?_
  · refine s_iload_n 2 dX1_join_157 rfl rfl ?_
    refine s_ifne (tgt := 165) dX1_join_158 (by decide) ?_ ?_
    · refine s_iload_n 1 dX1_join_165 rfl rfl ?_
      refine s_iload_n 2 dX1_join_166 rfl rfl ?_
      refine s_gd fun h1 => ?_
      refine s_idiv dX1_join_167 h1 ?_
      exact s_sub [] rfl (tX1_join_B168 l G (a2 / a3) M)
    · refine s_iconst (v := 0) dX1_join_161 ci_0 ?_
      refine s_goto (tgt := 168) dX1_join_162 (by decide) ?_
      exact s_sub [] rfl (tX1_join_B168 l G (0 : Int32) M)
  refine lk_cons (k := 60) (tgt := 112) (by decide) (by decide) ?_ ?_
  · refine s_iload_n 1 dX1_join_112 rfl rfl ?_
    refine s_iload_n 2 dX1_join_113 rfl rfl ?_
    refine s_icmpge (tgt := 121) dX1_join_114 (by decide) ?_ ?_
    · refine s_iconst (v := 0) dX1_join_121 ci_0 ?_
      exact s_sub [] rfl (tX1_join_B122 l G (0 : Int32) M)
    · refine s_iconst (v := 1) dX1_join_117 ci_1 ?_
      refine s_goto (tgt := 122) dX1_join_118 (by decide) ?_
      exact s_sub [] rfl (tX1_join_B122 l G (1 : Int32) M)
  refine lk_cons (k := 61) (tgt := 123) (by decide) (by decide) ?_ ?_
  · refine s_iload_n 1 dX1_join_123 rfl rfl ?_
    refine s_iload_n 2 dX1_join_124 rfl rfl ?_
    refine s_icmpne (tgt := 132) dX1_join_125 (by decide) ?_ ?_
    · refine s_iconst (v := 0) dX1_join_132 ci_0 ?_
      exact s_sub [] rfl (tX1_join_B133 l G (0 : Int32) M)
    · refine s_iconst (v := 1) dX1_join_128 ci_1 ?_
      refine s_goto (tgt := 133) dX1_join_129 (by decide) ?_
      exact s_sub [] rfl (tX1_join_B133 l G (1 : Int32) M)
  refine lk_cons (k := 62) (tgt := 134) (by decide) (by decide) ?_ ?_
  · refine s_iload_n 1 dX1_join_134 rfl rfl ?_
    refine s_iload_n 2 dX1_join_135 rfl rfl ?_
    refine s_icmple (tgt := 143) dX1_join_136 (by decide) ?_ ?_
    · refine s_iconst (v := 0) dX1_join_143 ci_0 ?_
      exact s_sub [] rfl (tX1_join_B144 l G (0 : Int32) M)
    · refine s_iconst (v := 1) dX1_join_139 ci_1 ?_
      refine s_goto (tgt := 144) dX1_join_140 (by decide) ?_
      exact s_sub [] rfl (tX1_join_B144 l G (1 : Int32) M)
  refine lk_cons (k := 124) (tgt := 84) (by decide) (by decide) ?_ ?_
  · refine s_iload_n 1 dX1_join_84 rfl rfl ?_
    refine s_ifne (tgt := 92) dX1_join_85 (by decide) ?_ ?_
    · exact s_sub [] rfl (tX1_join_B92 l G M)
    · refine s_iload_n 2 dX1_join_88 rfl rfl ?_
      refine s_ifeq (tgt := 96) dX1_join_89 (by decide) ?_ ?_
      · refine s_iconst (v := 0) dX1_join_96 ci_0 ?_
        exact s_sub [] rfl (tX1_join_B97 l G (0 : Int32) M)
      · exact s_sub [] rfl (tX1_join_B92 l G M)
  refine lk_nil (tgt := 169) (by decide) ?_
  refine s_iload_n 2 dX1_join_169 rfl rfl ?_
  refine s_ifne (tgt := 177) dX1_join_170 (by decide) ?_ ?_
  · refine s_iload_n 1 dX1_join_177 rfl rfl ?_
    refine s_iload_n 2 dX1_join_178 rfl rfl ?_
    refine s_gd fun h2 => ?_
    refine s_irem dX1_join_179 h2 ?_
    exact s_sub [] rfl (tX1_join_B180 l G (a2 - a2 / a3 * a3) M)
  · refine s_iconst (v := 0) dX1_join_173 ci_0 ?_
    refine s_goto (tgt := 180) dX1_join_174 (by decide) ?_
    exact s_sub [] rfl (tX1_join_B180 l G (0 : Int32) M)
theorem dX1_workOut_0 : decode cX1_workOut 0 = .ok (.aload_n 0, 1) := by decide +kernel
theorem dX1_workOut_1 : decode cX1_workOut 1 = .ok (.getfield 20, 3) := by decide +kernel
theorem dX1_workOut_4 : decode cX1_workOut 4 = .ok (.iconst 0, 1) := by decide +kernel
theorem dX1_workOut_5 : decode cX1_workOut 5 = .ok (.iload_n 1, 1) := by decide +kernel
theorem dX1_workOut_6 : decode cX1_workOut 6 = .ok (.iastore, 1) := by decide +kernel
theorem dX1_workOut_7 : decode cX1_workOut 7 = .ok (.aload_n 0, 1) := by decide +kernel
theorem dX1_workOut_8 : decode cX1_workOut 8 = .ok (.getfield 20, 3) := by decide +kernel
theorem dX1_workOut_11 : decode cX1_workOut 11 = .ok (.iconst 1, 1) := by decide +kernel
theorem dX1_workOut_12 : decode cX1_workOut 12 = .ok (.iload_n 2, 1) := by decide +kernel
theorem dX1_workOut_13 : decode cX1_workOut 13 = .ok (.iastore, 1) := by decide +kernel
theorem dX1_workOut_14 : decode cX1_workOut 14 = .ok (.aload_n 0, 1) := by decide +kernel
theorem dX1_workOut_15 : decode cX1_workOut 15 = .ok (.getfield 20, 3) := by decide +kernel
theorem dX1_workOut_18 : decode cX1_workOut 18 = .ok (.iconst 2, 1) := by decide +kernel
theorem dX1_workOut_19 : decode cX1_workOut 19 = .ok (.iload_n 3, 1) := by decide +kernel
theorem dX1_workOut_20 : decode cX1_workOut 20 = .ok (.iastore, 1) := by decide +kernel
theorem dX1_workOut_21 : decode cX1_workOut 21 = .ok (.aload_n 0, 1) := by decide +kernel
theorem dX1_workOut_22 : decode cX1_workOut 22 = .ok (.getfield 20, 3) := by decide +kernel
theorem dX1_workOut_25 : decode cX1_workOut 25 = .ok (.iconst 3, 1) := by decide +kernel
theorem dX1_workOut_26 : decode cX1_workOut 26 = .ok (.iload 4, 2) := by decide +kernel
theorem dX1_workOut_28 : decode cX1_workOut 28 = .ok (.iastore, 1) := by decide +kernel
theorem dX1_workOut_29 : decode cX1_workOut 29 = .ok (.iconst 0, 1) := by decide +kernel
theorem dX1_workOut_30 : decode cX1_workOut 30 = .ok (.istore 5, 2) := by decide +kernel
theorem dX1_workOut_32 : decode cX1_workOut 32 = .ok (.iconst 0, 1) := by decide +kernel
theorem dX1_workOut_33 : decode cX1_workOut 33 = .ok (.istore 6, 2) := by decide +kernel
theorem dX1_workOut_35 : decode cX1_workOut 35 = .ok (.iload 6, 2) := by decide +kernel
theorem dX1_workOut_37 : decode cX1_workOut 37 = .ok (.aload_n 0, 1) := by decide +kernel
theorem dX1_workOut_38 : decode cX1_workOut 38 = .ok (.getfield 14, 3) := by decide +kernel
theorem dX1_workOut_41 : decode cX1_workOut 41 = .ok (.getfield 27, 3) := by decide +kernel
theorem dX1_workOut_44 : decode cX1_workOut 44 = .ok (.if_icmp .ge 152, 3) := by decide +kernel
theorem dX1_workOut_47 : decode cX1_workOut 47 = .ok (.aload_n 0, 1) := by decide +kernel
theorem dX1_workOut_48 : decode cX1_workOut 48 = .ok (.getfield 14, 3) := by decide +kernel
theorem dX1_workOut_51 : decode cX1_workOut 51 = .ok (.getfield 31, 3) := by decide +kernel
theorem dX1_workOut_54 : decode cX1_workOut 54 = .ok (.iload 6, 2) := by decide +kernel
theorem dX1_workOut_56 : decode cX1_workOut 56 = .ok (.iaload, 1) := by decide +kernel
theorem dX1_workOut_57 : decode cX1_workOut 57 = .ok (.istore 7, 2) := by decide +kernel
theorem dX1_workOut_59 : decode cX1_workOut 59 = .ok (.iload 7, 2) := by decide +kernel
theorem dX1_workOut_61 : decode cX1_workOut 61 = .ok (.bipush (-4), 2) := by decide +kernel
theorem dX1_workOut_63 : decode cX1_workOut 63 = .ok (.if_icmp .lt 45, 3) := by decide +kernel
theorem dX1_workOut_66 : decode cX1_workOut 66 = .ok (.iload 5, 2) := by decide +kernel
theorem dX1_workOut_68 : decode cX1_workOut 68 = .ok (.aload_n 0, 1) := by decide +kernel
theorem dX1_workOut_69 : decode cX1_workOut 69 = .ok (.getfield 24, 3) := by decide +kernel
theorem dX1_workOut_72 : decode cX1_workOut 72 = .ok (.arraylength, 1) := by decide +kernel
theorem dX1_workOut_73 : decode cX1_workOut 73 = .ok (.if_icmp .ge 35, 3) := by decide +kernel
theorem dX1_workOut_76 : decode cX1_workOut 76 = .ok (.aload_n 0, 1) := by decide +kernel
theorem dX1_workOut_77 : decode cX1_workOut 77 = .ok (.getfield 24, 3) := by decide +kernel
theorem dX1_workOut_80 : decode cX1_workOut 80 = .ok (.iload 5, 2) := by decide +kernel
theorem dX1_workOut_82 : decode cX1_workOut 82 = .ok (.iload 7, 2) := by decide +kernel
theorem dX1_workOut_84 : decode cX1_workOut 84 = .ok (.ifCond .lt 8, 3) := by decide +kernel
theorem dX1_workOut_87 : decode cX1_workOut 87 = .ok (.iload 7, 2) := by decide +kernel
theorem dX1_workOut_89 : decode cX1_workOut 89 = .ok (.goto 12, 3) := by decide +kernel
theorem dX1_workOut_92 : decode cX1_workOut 92 = .ok (.aload_n 0, 1) := by decide +kernel
theorem dX1_workOut_93 : decode cX1_workOut 93 = .ok (.getfield 20, 3) := by decide +kernel
theorem dX1_workOut_96 : decode cX1_workOut 96 = .ok (.iconst (-1), 1) := by decide +kernel
theorem dX1_workOut_97 : decode cX1_workOut 97 = .ok (.iload 7, 2) := by decide +kernel
theorem dX1_workOut_99 : decode cX1_workOut 99 = .ok (.isub, 1) := by decide +kernel
theorem dX1_workOut_100 : decode cX1_workOut 100 = .ok (.iaload, 1) := by decide +kernel
theorem dX1_workOut_101 : decode cX1_workOut 101 = .ok (.iastore, 1) := by decide +kernel
theorem dX1_workOut_102 : decode cX1_workOut 102 = .ok (.iinc 5 1, 3) := by decide +kernel
theorem dX1_workOut_105 : decode cX1_workOut 105 = .ok (.goto 85, 3) := by decide +kernel
theorem dX1_workOut_108 : decode cX1_workOut 108 = .ok (.iload 7, 2) := by decide +kernel
theorem dX1_workOut_110 : decode cX1_workOut 110 = .ok (.bipush (-33), 2) := by decide +kernel
theorem dX1_workOut_112 : decode cX1_workOut 112 = .ok (.if_icmp .ne 38, 3) := by decide +kernel
theorem dX1_workOut_115 : decode cX1_workOut 115 = .ok (.iload 5, 2) := by decide +kernel
theorem dX1_workOut_117 : decode cX1_workOut 117 = .ok (.iconst 1, 1) := by decide +kernel
theorem dX1_workOut_118 : decode cX1_workOut 118 = .ok (.if_icmp .lt 32, 3) := by decide +kernel
theorem dX1_workOut_121 : decode cX1_workOut 121 = .ok (.aload_n 0, 1) := by decide +kernel
theorem dX1_workOut_122 : decode cX1_workOut 122 = .ok (.getfield 24, 3) := by decide +kernel
theorem dX1_workOut_125 : decode cX1_workOut 125 = .ok (.iload 5, 2) := by decide +kernel
theorem dX1_workOut_127 : decode cX1_workOut 127 = .ok (.iconst 1, 1) := by decide +kernel
theorem dX1_workOut_128 : decode cX1_workOut 128 = .ok (.isub, 1) := by decide +kernel
theorem dX1_workOut_129 : decode cX1_workOut 129 = .ok (.aload_n 0, 1) := by decide +kernel
theorem dX1_workOut_130 : decode cX1_workOut 130 = .ok (.getfield 24, 3) := by decide +kernel
theorem dX1_workOut_133 : decode cX1_workOut 133 = .ok (.iload 5, 2) := by decide +kernel
theorem dX1_workOut_135 : decode cX1_workOut 135 = .ok (.iconst 1, 1) := by decide +kernel
theorem dX1_workOut_136 : decode cX1_workOut 136 = .ok (.isub, 1) := by decide +kernel
theorem dX1_workOut_137 : decode cX1_workOut 137 = .ok (.iaload, 1) := by decide +kernel
theorem dX1_workOut_138 : decode cX1_workOut 138 = .ok (.ifCond .ne 7, 3) := by decide +kernel
theorem dX1_workOut_141 : decode cX1_workOut 141 = .ok (.iconst 1, 1) := by decide +kernel
theorem dX1_workOut_142 : decode cX1_workOut 142 = .ok (.goto 4, 3) := by decide +kernel
theorem dX1_workOut_145 : decode cX1_workOut 145 = .ok (.iconst 0, 1) := by decide +kernel
theorem dX1_workOut_146 : decode cX1_workOut 146 = .ok (.iastore, 1) := by decide +kernel
theorem dX1_workOut_147 : decode cX1_workOut 147 = .ok (.goto 43, 3) := by decide +kernel
theorem dX1_workOut_150 : decode cX1_workOut 150 = .ok (.iload 5, 2) := by decide +kernel
theorem dX1_workOut_152 : decode cX1_workOut 152 = .ok (.iconst 2, 1) := by decide +kernel
theorem dX1_workOut_153 : decode cX1_workOut 153 = .ok (.if_icmp .lt 37, 3) := by decide +kernel
theorem dX1_workOut_156 : decode cX1_workOut 156 = .ok (.iinc 5 (-1), 3) := by decide +kernel
theorem dX1_workOut_159 : decode cX1_workOut 159 = .ok (.aload_n 0, 1) := by decide +kernel
theorem dX1_workOut_160 : decode cX1_workOut 160 = .ok (.getfield 24, 3) := by decide +kernel
theorem dX1_workOut_163 : decode cX1_workOut 163 = .ok (.iload 5, 2) := by decide +kernel
theorem dX1_workOut_165 : decode cX1_workOut 165 = .ok (.iconst 1, 1) := by decide +kernel
theorem dX1_workOut_166 : decode cX1_workOut 166 = .ok (.isub, 1) := by decide +kernel
theorem dX1_workOut_167 : decode cX1_workOut 167 = .ok (.iload 7, 2) := by decide +kernel
theorem dX1_workOut_169 : decode cX1_workOut 169 = .ok (.ineg, 1) := by decide +kernel
theorem dX1_workOut_170 : decode cX1_workOut 170 = .ok (.aload_n 0, 1) := by decide +kernel
theorem dX1_workOut_171 : decode cX1_workOut 171 = .ok (.getfield 24, 3) := by decide +kernel
theorem dX1_workOut_174 : decode cX1_workOut 174 = .ok (.iload 5, 2) := by decide +kernel
theorem dX1_workOut_176 : decode cX1_workOut 176 = .ok (.iconst 1, 1) := by decide +kernel
theorem dX1_workOut_177 : decode cX1_workOut 177 = .ok (.isub, 1) := by decide +kernel
theorem dX1_workOut_178 : decode cX1_workOut 178 = .ok (.iaload, 1) := by decide +kernel
theorem dX1_workOut_179 : decode cX1_workOut 179 = .ok (.aload_n 0, 1) := by decide +kernel
theorem dX1_workOut_180 : decode cX1_workOut 180 = .ok (.getfield 24, 3) := by decide +kernel
theorem dX1_workOut_183 : decode cX1_workOut 183 = .ok (.iload 5, 2) := by decide +kernel
theorem dX1_workOut_185 : decode cX1_workOut 185 = .ok (.iaload, 1) := by decide +kernel
theorem dX1_workOut_186 : decode cX1_workOut 186 = .ok (.invokestatic 34, 3) := by decide +kernel
theorem dX1_workOut_189 : decode cX1_workOut 189 = .ok (.iastore, 1) := by decide +kernel
theorem dX1_workOut_190 : decode cX1_workOut 190 = .ok (.iinc 6 1, 3) := by decide +kernel
theorem dX1_workOut_193 : decode cX1_workOut 193 = .ok (.goto (-158), 3) := by decide +kernel
theorem dX1_workOut_196 : decode cX1_workOut 196 = .ok (.aload_n 0, 1) := by decide +kernel
theorem dX1_workOut_197 : decode cX1_workOut 197 = .ok (.getfield 24, 3) := by decide +kernel
theorem dX1_workOut_200 : decode cX1_workOut 200 = .ok (.iconst 0, 1) := by decide +kernel
theorem dX1_workOut_201 : decode cX1_workOut 201 = .ok (.iaload, 1) := by decide +kernel
theorem dX1_workOut_202 : decode cX1_workOut 202 = .ok (.ireturn, 1) := by decide +kernel
def fX1_workOut_B196 (v0 : Nat) (M : Mm) : Option (Int32 × Mm) :=
  gd (isC layC v0 1) <|
  gd (isN layC (fR layC v0 2) (aN layC (fR layC v0 2))) <|
  gd (inb (0 : Int32) (aN layC (fR layC v0 2))) <|
  some (M (fR layC v0 2) (ix (0 : Int32)), M)
theorem tX1_workOut_B196 (l : Launch) (G : Gx) (v0 : Nat) (M : Mm) : Sim cQi l layC G 2 cX1_workOut RX1 8 (some .int) 196 [(0, rf G v0)] [] M (fX1_workOut_B196 v0 M) := by
  unfold fX1_workOut_B196
  refine s_aload_n 0 dX1_workOut_196 rfl rfl ?_
  refine s_gd fun h13 => ?_
  refine g_X1_24 (q := fR layC v0 2) h13 rfl dX1_workOut_197 ?_
  refine s_iconst (v := 0) dX1_workOut_200 ci_0 ?_
  refine s_gd fun h14 => ?_
  refine s_gd fun h15 => ?_
  refine s_iald (n := (aN layC (fR layC v0 2))) h14 h15 dX1_workOut_201 ?_
  exact s_iret rfl dX1_workOut_202
def fX1_workOut_B190 (q35 : Int32 → Int32 → Mm → Option (Int32 × Mm)) (v6 : Int32) (v5 : Int32) (v0 : Nat) (M : Mm) : Option (Int32 × Mm) :=
  q35 (v6 + 1) v5 M
theorem tX1_workOut_B190 (l : Launch) (G : Gx) (v6 : Int32) (v5 : Int32) (v0 : Nat) (q35 : Int32 → Int32 → Mm → Option (Int32 × Mm)) (hq35 : ∀ (v6 : Int32) (v5 : Int32) (M : Mm), Sim cQi l layC G 2 cX1_workOut RX1 8 (some .int) 35 [(6, .int v6), (5, .int v5), (0, rf G v0)] [] M (q35 v6 v5 M)) (M : Mm) : Sim cQi l layC G 2 cX1_workOut RX1 8 (some .int) 190 [(6, .int v6), (5, .int v5), (0, rf G v0)] [] M (fX1_workOut_B190 q35 v6 v5 v0 M) := by
  unfold fX1_workOut_B190
  refine s_iinc (k := 0) (lv' := [(6, .int (v6 + 1)), (5, .int v5), (0, rf G v0)]) dX1_workOut_190 rfl ci_1 rfl rfl ?_
  refine s_goto (tgt := 35) dX1_workOut_193 (by decide) ?_
  exact s_sub [0, 1, 2] rfl (hq35 (v6 + 1) v5 M)
def fX1_workOut_B150 (q35 : Int32 → Int32 → Mm → Option (Int32 × Mm)) (v7 : Int32) (v6 : Int32) (v5 : Int32) (v0 : Nat) (M : Mm) : Option (Int32 × Mm) :=
  if v5 < (2 : Int32) then (fX1_workOut_B190 q35 v6 v5 v0 M)
  else gd (isC layC v0 1) <|
  gd (isN layC (fR layC v0 2) (aN layC (fR layC v0 2))) <|
  gd (inb ((v5 + (-1)) - (1 : Int32)) (aN layC (fR layC v0 2))) <|
  gd (inb (v5 + (-1)) (aN layC (fR layC v0 2))) <|
  bd (fX1_join (-v7) (M (fR layC v0 2) (ix ((v5 + (-1)) - (1 : Int32)))) (M (fR layC v0 2) (ix (v5 + (-1)))) M) fun r23 M24 =>
  lt (wr M24 (fR layC v0 2) (ix ((v5 + (-1)) - (1 : Int32))) r23) fun M25 =>
  fX1_workOut_B190 q35 v6 (v5 + (-1)) v0 M25
theorem tX1_workOut_B150 (l : Launch) (G : Gx) (v7 : Int32) (v6 : Int32) (v5 : Int32) (v0 : Nat) (q35 : Int32 → Int32 → Mm → Option (Int32 × Mm)) (hq35 : ∀ (v6 : Int32) (v5 : Int32) (M : Mm), Sim cQi l layC G 2 cX1_workOut RX1 8 (some .int) 35 [(6, .int v6), (5, .int v5), (0, rf G v0)] [] M (q35 v6 v5 M)) (M : Mm) : Sim cQi l layC G 2 cX1_workOut RX1 8 (some .int) 150 [(7, .int v7), (6, .int v6), (5, .int v5), (0, rf G v0)] [] M (fX1_workOut_B150 q35 v7 v6 v5 v0 M) := by
  unfold fX1_workOut_B150
  refine s_iload 2 dX1_workOut_150 rfl ?_
  refine s_iconst (v := 2) dX1_workOut_152 ci_2 ?_
  refine s_icmplt (tgt := 190) dX1_workOut_153 (by decide) ?_ ?_
  · exact s_sub [1, 2, 3] rfl (tX1_workOut_B190 l G v6 v5 v0 q35 hq35 M)
  · refine s_iinc (k := 2) (lv' := [(5, .int (v5 + (-1))), (7, .int v7), (6, .int v6), (0, rf G v0)]) dX1_workOut_156 rfl ci_m1 rfl rfl ?_
    refine s_aload_n 3 dX1_workOut_159 rfl rfl ?_
    refine s_gd fun h19 => ?_
    refine g_X1_24 (q := fR layC v0 2) h19 rfl dX1_workOut_160 ?_
    refine s_iload 0 dX1_workOut_163 rfl ?_
    refine s_iconst (v := 1) dX1_workOut_165 ci_1 ?_
    refine s_isub dX1_workOut_166 ?_
    refine s_iload 1 dX1_workOut_167 rfl ?_
    refine s_ineg dX1_workOut_169 ?_
    refine s_aload_n 3 dX1_workOut_170 rfl rfl ?_
    refine g_X1_24 (q := fR layC v0 2) h19 rfl dX1_workOut_171 ?_
    refine s_iload 0 dX1_workOut_174 rfl ?_
    refine s_iconst (v := 1) dX1_workOut_176 ci_1 ?_
    refine s_isub dX1_workOut_177 ?_
    refine s_gd fun h20 => ?_
    refine s_gd fun h21 => ?_
    refine s_iald (n := (aN layC (fR layC v0 2))) h20 h21 dX1_workOut_178 ?_
    refine s_aload_n 3 dX1_workOut_179 rfl rfl ?_
    refine g_X1_24 (q := fR layC v0 2) h19 rfl dX1_workOut_180 ?_
    refine s_iload 0 dX1_workOut_183 rfl ?_
    refine s_gd fun h22 => ?_
    refine s_iald (n := (aN layC (fR layC v0 2))) h20 h22 dX1_workOut_185 ?_
    refine s_call_i (s_runS (rest := [.int ((v5 + (-1)) - (1 : Int32)), rf G (fR layC v0 2)]) (mX1_join l G (-v7) (M (fR layC v0 2) (ix ((v5 + (-1)) - (1 : Int32)))) (M (fR layC v0 2) (ix (v5 + (-1)))) M) ok_X1_join k_X1_34 rfl rfl rfl rfl dX1_workOut_186) fun r23 M24 => ?_
    refine s_iast (n := (aN layC (fR layC v0 2))) h20 h21 dX1_workOut_189 ?_
    refine s_letM fun M25 => ?_
    exact s_sub [2, 0, 3] rfl (tX1_workOut_B190 l G v6 (v5 + (-1)) v0 q35 hq35 M25)
def fX1_workOut_B146 (q35 : Int32 → Int32 → Mm → Option (Int32 × Mm)) (v6 : Int32) (v5 : Int32) (v0 : Nat) (w0 : Int32) (w1 : Int32) (w2 : Nat) (M : Mm) : Option (Int32 × Mm) :=
  gd (isN layC w2 (aN layC w2)) <|
  gd (inb w1 (aN layC w2)) <|
  lt (wr M w2 (ix w1) w0) fun M31 =>
  fX1_workOut_B190 q35 v6 v5 v0 M31
theorem tX1_workOut_B146 (l : Launch) (G : Gx) (v6 : Int32) (v5 : Int32) (v0 : Nat) (w0 : Int32) (w1 : Int32) (w2 : Nat) (q35 : Int32 → Int32 → Mm → Option (Int32 × Mm)) (hq35 : ∀ (v6 : Int32) (v5 : Int32) (M : Mm), Sim cQi l layC G 2 cX1_workOut RX1 8 (some .int) 35 [(6, .int v6), (5, .int v5), (0, rf G v0)] [] M (q35 v6 v5 M)) (M : Mm) : Sim cQi l layC G 2 cX1_workOut RX1 8 (some .int) 146 [(6, .int v6), (5, .int v5), (0, rf G v0)] [.int w0, .int w1, rf G w2] M (fX1_workOut_B146 q35 v6 v5 v0 w0 w1 w2 M) := by
  unfold fX1_workOut_B146
  refine s_gd fun h29 => ?_
  refine s_gd fun h30 => ?_
  refine s_iast (n := (aN layC w2)) h29 h30 dX1_workOut_146 ?_
  refine s_letM fun M31 => ?_
  refine s_goto (tgt := 190) dX1_workOut_147 (by decide) ?_
  exact s_sub [0, 1, 2] rfl (tX1_workOut_B190 l G v6 v5 v0 q35 hq35 M31)
def fX1_workOut_B108 (q35 : Int32 → Int32 → Mm → Option (Int32 × Mm)) (v7 : Int32) (v6 : Int32) (v5 : Int32) (v0 : Nat) (M : Mm) : Option (Int32 × Mm) :=
  if v7 = (-33 : Int32) then (if v5 < (1 : Int32) then (fX1_workOut_B150 q35 v7 v6 v5 v0 M)
  else gd (isC layC v0 1) <|
  gd (isN layC (fR layC v0 2) (aN layC (fR layC v0 2))) <|
  gd (inb (v5 - (1 : Int32)) (aN layC (fR layC v0 2))) <|
  if (M (fR layC v0 2) (ix (v5 - (1 : Int32)))) = 0 then (fX1_workOut_B146 q35 v6 v5 v0 (1 : Int32) (v5 - (1 : Int32)) (fR layC v0 2) M)
  else fX1_workOut_B146 q35 v6 v5 v0 (0 : Int32) (v5 - (1 : Int32)) (fR layC v0 2) M)
  else fX1_workOut_B150 q35 v7 v6 v5 v0 M
theorem tX1_workOut_B108 (l : Launch) (G : Gx) (v7 : Int32) (v6 : Int32) (v5 : Int32) (v0 : Nat) (q35 : Int32 → Int32 → Mm → Option (Int32 × Mm)) (hq35 : ∀ (v6 : Int32) (v5 : Int32) (M : Mm), Sim cQi l layC G 2 cX1_workOut RX1 8 (some .int) 35 [(6, .int v6), (5, .int v5), (0, rf G v0)] [] M (q35 v6 v5 M)) (M : Mm) : Sim cQi l layC G 2 cX1_workOut RX1 8 (some .int) 108 [(7, .int v7), (6, .int v6), (5, .int v5), (0, rf G v0)] [] M (fX1_workOut_B108 q35 v7 v6 v5 v0 M) := by
  unfold fX1_workOut_B108
  refine s_iload 0 dX1_workOut_108 rfl ?_
  refine s_bipush (v := -33) dX1_workOut_110 cb_m33 ?_
  refine s_icmpne (tgt := 150) dX1_workOut_112 (by decide) ?_ ?_
  · exact s_sub [0, 1, 2, 3] rfl (tX1_workOut_B150 l G v7 v6 v5 v0 q35 hq35 M)
  · refine s_iload 2 dX1_workOut_115 rfl ?_
    refine s_iconst (v := 1) dX1_workOut_117 ci_1 ?_
    refine s_icmplt (tgt := 150) dX1_workOut_118 (by decide) ?_ ?_
    · exact s_sub [0, 1, 2, 3] rfl (tX1_workOut_B150 l G v7 v6 v5 v0 q35 hq35 M)
    · refine s_aload_n 3 dX1_workOut_121 rfl rfl ?_
      refine s_gd fun h26 => ?_
      refine g_X1_24 (q := fR layC v0 2) h26 rfl dX1_workOut_122 ?_
      refine s_iload 2 dX1_workOut_125 rfl ?_
      refine s_iconst (v := 1) dX1_workOut_127 ci_1 ?_
      refine s_isub dX1_workOut_128 ?_
      refine s_aload_n 3 dX1_workOut_129 rfl rfl ?_
      refine g_X1_24 (q := fR layC v0 2) h26 rfl dX1_workOut_130 ?_
      refine s_iload 2 dX1_workOut_133 rfl ?_
      refine s_iconst (v := 1) dX1_workOut_135 ci_1 ?_
      refine s_isub dX1_workOut_136 ?_
      refine s_gd fun h27 => ?_
      refine s_gd fun h28 => ?_
      refine s_iald (n := (aN layC (fR layC v0 2))) h27 h28 dX1_workOut_137 ?_
      refine s_ifne (tgt := 145) dX1_workOut_138 (by decide) ?_ ?_
      · refine s_iconst (v := 0) dX1_workOut_145 ci_0 ?_
        exact s_sub [1, 2, 3] rfl (tX1_workOut_B146 l G v6 v5 v0 (0 : Int32) (v5 - (1 : Int32)) (fR layC v0 2) q35 hq35 M)
      · refine s_iconst (v := 1) dX1_workOut_141 ci_1 ?_
        refine s_goto (tgt := 146) dX1_workOut_142 (by decide) ?_
        exact s_sub [1, 2, 3] rfl (tX1_workOut_B146 l G v6 v5 v0 (1 : Int32) (v5 - (1 : Int32)) (fR layC v0 2) q35 hq35 M)
def fX1_workOut_B101 (q35 : Int32 → Int32 → Mm → Option (Int32 × Mm)) (v6 : Int32) (v5 : Int32) (v0 : Nat) (w0 : Int32) (w1 : Int32) (w2 : Nat) (M : Mm) : Option (Int32 × Mm) :=
  gd (isN layC w2 (aN layC w2)) <|
  gd (inb w1 (aN layC w2)) <|
  lt (wr M w2 (ix w1) w0) fun M37 =>
  fX1_workOut_B190 q35 v6 (v5 + 1) v0 M37
theorem tX1_workOut_B101 (l : Launch) (G : Gx) (v6 : Int32) (v5 : Int32) (v0 : Nat) (w0 : Int32) (w1 : Int32) (w2 : Nat) (q35 : Int32 → Int32 → Mm → Option (Int32 × Mm)) (hq35 : ∀ (v6 : Int32) (v5 : Int32) (M : Mm), Sim cQi l layC G 2 cX1_workOut RX1 8 (some .int) 35 [(6, .int v6), (5, .int v5), (0, rf G v0)] [] M (q35 v6 v5 M)) (M : Mm) : Sim cQi l layC G 2 cX1_workOut RX1 8 (some .int) 101 [(6, .int v6), (5, .int v5), (0, rf G v0)] [.int w0, .int w1, rf G w2] M (fX1_workOut_B101 q35 v6 v5 v0 w0 w1 w2 M) := by
  unfold fX1_workOut_B101
  refine s_gd fun h35 => ?_
  refine s_gd fun h36 => ?_
  refine s_iast (n := (aN layC w2)) h35 h36 dX1_workOut_101 ?_
  refine s_letM fun M37 => ?_
  refine s_iinc (k := 1) (lv' := [(5, .int (v5 + 1)), (6, .int v6), (0, rf G v0)]) dX1_workOut_102 rfl ci_1 rfl rfl ?_
  refine s_goto (tgt := 190) dX1_workOut_105 (by decide) ?_
  exact s_sub [1, 0, 2] rfl (tX1_workOut_B190 l G v6 (v5 + 1) v0 q35 hq35 M37)
def fX1_workOut_L35b (v0 : Nat) (q35 : Int32 → Int32 → Mm → Option (Int32 × Mm)) (v6 : Int32) (v5 : Int32) (M : Mm) : Option (Int32 × Mm) :=
  gd (isC layC v0 1) <|
  gd (isC layC (fR layC v0 0) 5) <|
  if (M (fR layC v0 0) 1) ≤ v6 then (fX1_workOut_B196 v0 M)
  else gd (isN layC (fR layC (fR layC v0 0) 0) (aN layC (fR layC (fR layC v0 0) 0))) <|
  gd (inb v6 (aN layC (fR layC (fR layC v0 0) 0))) <|
  lt (M (fR layC (fR layC v0 0) 0) (ix v6)) fun x18 =>
  if x18 < (-4 : Int32) then (fX1_workOut_B108 q35 x18 v6 v5 v0 M)
  else gd (isN layC (fR layC v0 2) (aN layC (fR layC v0 2))) <|
  if (Int32.ofNat (aN layC (fR layC v0 2))) ≤ v5 then (fX1_workOut_B108 q35 x18 v6 v5 v0 M)
  else if x18 < 0 then (gd (isN layC (fR layC v0 1) (aN layC (fR layC v0 1))) <|
  gd (inb ((-1 : Int32) - x18) (aN layC (fR layC v0 1))) <|
  fX1_workOut_B101 q35 v6 v5 v0 (M (fR layC v0 1) (ix ((-1 : Int32) - x18))) v5 (fR layC v0 2) M)
  else fX1_workOut_B101 q35 v6 v5 v0 x18 v5 (fR layC v0 2) M
def fX1_workOut_L35 (v0 : Nat) : Nat → Int32 → Int32 → Mm → Option (Int32 × Mm)
  | 0 => fun _ _ _ => none
  | n + 1 => fX1_workOut_L35b v0 (fX1_workOut_L35 v0 n)
theorem tX1_workOut_L35b (l : Launch) (G : Gx) (v0 : Nat) (q35 : Int32 → Int32 → Mm → Option (Int32 × Mm)) (hq35 : ∀ (v6 : Int32) (v5 : Int32) (M : Mm), Sim cQi l layC G 2 cX1_workOut RX1 8 (some .int) 35 [(6, .int v6), (5, .int v5), (0, rf G v0)] [] M (q35 v6 v5 M)) (v6 : Int32) (v5 : Int32) (M : Mm) : Sim cQi l layC G 2 cX1_workOut RX1 8 (some .int) 35 [(6, .int v6), (5, .int v5), (0, rf G v0)] [] M (fX1_workOut_L35b v0 q35 v6 v5 M) := by
  unfold fX1_workOut_L35b
  refine s_iload 0 dX1_workOut_35 rfl ?_
  refine s_aload_n 2 dX1_workOut_37 rfl rfl ?_
  refine s_gd fun h11 => ?_
  refine g_X1_14 (q := fR layC v0 0) h11 rfl dX1_workOut_38 ?_
  refine s_gd fun h12 => ?_
  refine g_X1_27 h12 dX1_workOut_41 ?_
  refine s_icmpge (tgt := 196) dX1_workOut_44 (by decide) ?_ ?_
  · exact s_sub [2] rfl (tX1_workOut_B196 l G v0 M)
  · refine s_aload_n 2 dX1_workOut_47 rfl rfl ?_
    refine g_X1_14 (q := fR layC v0 0) h11 rfl dX1_workOut_48 ?_
    refine g_X1_31 (q := fR layC (fR layC v0 0) 0) h12 rfl dX1_workOut_51 ?_
    refine s_iload 0 dX1_workOut_54 rfl ?_
    refine s_gd fun h16 => ?_
    refine s_gd fun h17 => ?_
    refine s_iald (n := (aN layC (fR layC (fR layC v0 0) 0))) h16 h17 dX1_workOut_56 ?_
    refine s_leti fun x18 => ?_
    refine s_istore (lv' := [(7, .int x18), (6, .int v6), (5, .int v5), (0, rf G v0)]) dX1_workOut_57 rfl rfl ?_
    refine s_iload 0 dX1_workOut_59 rfl ?_
    refine s_bipush (v := -4) dX1_workOut_61 cb_m4 ?_
    refine s_icmplt (tgt := 108) dX1_workOut_63 (by decide) ?_ ?_
    · exact s_sub [0, 1, 2, 3] rfl (tX1_workOut_B108 l G x18 v6 v5 v0 q35 hq35 M)
    · refine s_iload 2 dX1_workOut_66 rfl ?_
      refine s_aload_n 3 dX1_workOut_68 rfl rfl ?_
      refine g_X1_24 (q := fR layC v0 2) h11 rfl dX1_workOut_69 ?_
      refine s_gd fun h32 => ?_
      refine s_alen (n := (aN layC (fR layC v0 2))) (v := Int32.ofNat (aN layC (fR layC v0 2))) h32 rfl dX1_workOut_72 ?_
      refine s_icmpge (tgt := 108) dX1_workOut_73 (by decide) ?_ ?_
      · exact s_sub [0, 1, 2, 3] rfl (tX1_workOut_B108 l G x18 v6 v5 v0 q35 hq35 M)
      · refine s_aload_n 3 dX1_workOut_76 rfl rfl ?_
        refine g_X1_24 (q := fR layC v0 2) h11 rfl dX1_workOut_77 ?_
        refine s_iload 2 dX1_workOut_80 rfl ?_
        refine s_iload 0 dX1_workOut_82 rfl ?_
        refine s_iflt (tgt := 92) dX1_workOut_84 (by decide) ?_ ?_
        · refine s_aload_n 3 dX1_workOut_92 rfl rfl ?_
          refine g_X1_20 (q := fR layC v0 1) h11 rfl dX1_workOut_93 ?_
          refine s_iconst (v := -1) dX1_workOut_96 ci_m1 ?_
          refine s_iload 0 dX1_workOut_97 rfl ?_
          refine s_isub dX1_workOut_99 ?_
          refine s_gd fun h33 => ?_
          refine s_gd fun h34 => ?_
          refine s_iald (n := (aN layC (fR layC v0 1))) h33 h34 dX1_workOut_100 ?_
          exact s_sub [1, 2, 3] rfl (tX1_workOut_B101 l G v6 v5 v0 (M (fR layC v0 1) (ix ((-1 : Int32) - x18))) v5 (fR layC v0 2) q35 hq35 M)
        · refine s_iload 0 dX1_workOut_87 rfl ?_
          refine s_goto (tgt := 101) dX1_workOut_89 (by decide) ?_
          exact s_sub [1, 2, 3] rfl (tX1_workOut_B101 l G v6 v5 v0 x18 v5 (fR layC v0 2) q35 hq35 M)
theorem tX1_workOut_L35 (l : Launch) (G : Gx) (v0 : Nat) : ∀ (n : Nat) (v6 : Int32) (v5 : Int32) (M : Mm), Sim cQi l layC G 2 cX1_workOut RX1 8 (some .int) 35 [(6, .int v6), (5, .int v5), (0, rf G v0)] [] M (fX1_workOut_L35 v0 n v6 v5 M)
  | 0, _, _, _ => s_none
  | n + 1, v6, v5, M => tX1_workOut_L35b l G v0 _ (tX1_workOut_L35 l G v0 n) v6 v5 M
def fX1_workOut (k0 : Nat) (a1 : Int32) (a2 : Int32) (a3 : Int32) (a4 : Int32) (M : Mm) : Option (Int32 × Mm) :=
  gd (isC layC k0 1) <|
  gd (isN layC (fR layC k0 1) (aN layC (fR layC k0 1))) <|
  gd (inb (0 : Int32) (aN layC (fR layC k0 1))) <|
  lt (wr M (fR layC k0 1) (ix (0 : Int32)) a1) fun M4 =>
  gd (inb (1 : Int32) (aN layC (fR layC k0 1))) <|
  lt (wr M4 (fR layC k0 1) (ix (1 : Int32)) a2) fun M6 =>
  gd (inb (2 : Int32) (aN layC (fR layC k0 1))) <|
  lt (wr M6 (fR layC k0 1) (ix (2 : Int32)) a3) fun M8 =>
  gd (inb (3 : Int32) (aN layC (fR layC k0 1))) <|
  lt (wr M8 (fR layC k0 1) (ix (3 : Int32)) a4) fun M10 =>
  fX1_workOut_L35 k0 FU (0 : Int32) (0 : Int32) M10
theorem mX1_workOut (l : Launch) (G : Gx) (k0 : Nat) (a1 : Int32) (a2 : Int32) (a3 : Int32) (a4 : Int32) (M : Mm) : Mt cQi l layC G 2 yX1_workOut cX1_workOut 8 (some .int) [rf G k0, .int a1, .int a2, .int a3, .int a4] M (fX1_workOut k0 a1 a2 a3 a4 M) := by
  refine Mt.of2 (own := RX1) (lv := [(0, rf G k0), (1, .int a1), (2, .int a2), (3, .int a3), (4, .int a4)]) rfl (by decide +kernel) rfl rfl ?_
  unfold fX1_workOut
  refine s_aload_n 0 dX1_workOut_0 rfl rfl ?_
  refine s_gd fun h1 => ?_
  refine g_X1_20 (q := fR layC k0 1) h1 rfl dX1_workOut_1 ?_
  refine s_iconst (v := 0) dX1_workOut_4 ci_0 ?_
  refine s_iload_n 1 dX1_workOut_5 rfl rfl ?_
  refine s_gd fun h2 => ?_
  refine s_gd fun h3 => ?_
  refine s_iast (n := (aN layC (fR layC k0 1))) h2 h3 dX1_workOut_6 ?_
  refine s_letM fun M4 => ?_
  refine s_aload_n 0 dX1_workOut_7 rfl rfl ?_
  refine g_X1_20 (q := fR layC k0 1) h1 rfl dX1_workOut_8 ?_
  refine s_iconst (v := 1) dX1_workOut_11 ci_1 ?_
  refine s_iload_n 2 dX1_workOut_12 rfl rfl ?_
  refine s_gd fun h5 => ?_
  refine s_iast (n := (aN layC (fR layC k0 1))) h2 h5 dX1_workOut_13 ?_
  refine s_letM fun M6 => ?_
  refine s_aload_n 0 dX1_workOut_14 rfl rfl ?_
  refine g_X1_20 (q := fR layC k0 1) h1 rfl dX1_workOut_15 ?_
  refine s_iconst (v := 2) dX1_workOut_18 ci_2 ?_
  refine s_iload_n 3 dX1_workOut_19 rfl rfl ?_
  refine s_gd fun h7 => ?_
  refine s_iast (n := (aN layC (fR layC k0 1))) h2 h7 dX1_workOut_20 ?_
  refine s_letM fun M8 => ?_
  refine s_aload_n 0 dX1_workOut_21 rfl rfl ?_
  refine g_X1_20 (q := fR layC k0 1) h1 rfl dX1_workOut_22 ?_
  refine s_iconst (v := 3) dX1_workOut_25 ci_3 ?_
  refine s_iload 4 dX1_workOut_26 rfl ?_
  refine s_gd fun h9 => ?_
  refine s_iast (n := (aN layC (fR layC k0 1))) h2 h9 dX1_workOut_28 ?_
  refine s_letM fun M10 => ?_
  refine s_iconst (v := 0) dX1_workOut_29 ci_0 ?_
  refine s_istore (lv' := [(5, .int (0 : Int32)), (0, rf G k0), (1, .int a1), (2, .int a2), (3, .int a3), (4, .int a4)]) dX1_workOut_30 rfl rfl ?_
  refine s_iconst (v := 0) dX1_workOut_32 ci_0 ?_
  refine s_istore (lv' := [(6, .int (0 : Int32)), (5, .int (0 : Int32)), (0, rf G k0), (1, .int a1), (2, .int a2), (3, .int a3), (4, .int a4)]) dX1_workOut_33 rfl rfl ?_
  exact s_sub [0, 1, 2] rfl (tX1_workOut_L35 l G k0 FU (0 : Int32) (0 : Int32) M10)
theorem dX3_takeIce_0 : decode cX3_takeIce 0 = .ok (.aload_n 0, 1) := by decide +kernel
theorem dX3_takeIce_1 : decode cX3_takeIce 1 = .ok (.dup, 1) := by decide +kernel
theorem dX3_takeIce_2 : decode cX3_takeIce 2 = .ok (.getfield 24, 3) := by decide +kernel
theorem dX3_takeIce_5 : decode cX3_takeIce 5 = .ok (.iload_n 1, 1) := by decide +kernel
theorem dX3_takeIce_6 : decode cX3_takeIce 6 = .ok (.isub, 1) := by decide +kernel
theorem dX3_takeIce_7 : decode cX3_takeIce 7 = .ok (.putfield 24, 3) := by decide +kernel
theorem dX3_takeIce_10 : decode cX3_takeIce 10 = .ok (.iload_n 1, 1) := by decide +kernel
theorem dX3_takeIce_11 : decode cX3_takeIce 11 = .ok (.ireturn, 1) := by decide +kernel
def fX3_takeIce (k0 : Nat) (a1 : Int32) (M : Mm) : Option (Int32 × Mm) :=
  gd (isC layC k0 3) <|
  lt (wr M k0 3 ((M k0 3) - a1)) fun M2 =>
  some (a1, M2)
theorem mX3_takeIce (l : Launch) (G : Gx) (k0 : Nat) (a1 : Int32) (M : Mm) : Mt cQi l layC G 1 yX3_takeIce cX3_takeIce 2 (some .int) [rf G k0, .int a1] M (fX3_takeIce k0 a1 M) := by
  refine Mt.of2 (own := RX3) (lv := [(0, rf G k0), (1, .int a1)]) rfl (by decide +kernel) rfl rfl ?_
  unfold fX3_takeIce
  refine s_aload_n 0 dX3_takeIce_0 rfl rfl ?_
  refine s_dup dX3_takeIce_1 rfl ?_
  refine s_gd fun h1 => ?_
  refine g_X3_24 h1 dX3_takeIce_2 ?_
  refine s_iload_n 1 dX3_takeIce_5 rfl rfl ?_
  refine s_isub dX3_takeIce_6 ?_
  refine p_X3_24 h1 dX3_takeIce_7 ?_
  refine s_letM fun M2 => ?_
  refine s_iload_n 1 dX3_takeIce_10 rfl rfl ?_
  exact s_iret rfl dX3_takeIce_11
theorem dX3_grow_0 : decode cX3_grow 0 = .ok (.aload_n 0, 1) := by decide +kernel
theorem dX3_grow_1 : decode cX3_grow 1 = .ok (.aload_n 0, 1) := by decide +kernel
theorem dX3_grow_2 : decode cX3_grow 2 = .ok (.getfield 30, 3) := by decide +kernel
theorem dX3_grow_5 : decode cX3_grow 5 = .ok (.iconst 1, 1) := by decide +kernel
theorem dX3_grow_6 : decode cX3_grow 6 = .ok (.iadd, 1) := by decide +kernel
theorem dX3_grow_7 : decode cX3_grow 7 = .ok (.bipush 99, 2) := by decide +kernel
theorem dX3_grow_9 : decode cX3_grow 9 = .ok (.invokestatic 41, 3) := by decide +kernel
theorem dX3_grow_12 : decode cX3_grow 12 = .ok (.putfield 30, 3) := by decide +kernel
theorem dX3_grow_15 : decode cX3_grow 15 = .ok (.return_, 1) := by decide +kernel
def fX3_grow (k0 : Nat) (M : Mm) : Option (Unit × Mm) :=
  gd (isC layC k0 3) <|
  lt (wr M k0 6 (if (99 : Int32) < ((M k0 6) + (1 : Int32)) then (99 : Int32) else ((M k0 6) + (1 : Int32)))) fun M2 =>
  some ((), M2)
theorem mX3_grow (l : Launch) (G : Gx) (k0 : Nat) (M : Mm) : Mt cQv l layC G 1 yX3_grow cX3_grow 1 none [rf G k0] M (fX3_grow k0 M) := by
  refine Mt.of2 (own := RX3) (lv := [(0, rf G k0)]) rfl (by decide +kernel) rfl rfl ?_
  unfold fX3_grow
  refine s_aload_n 0 dX3_grow_0 rfl rfl ?_
  refine s_aload_n 0 dX3_grow_1 rfl rfl ?_
  refine s_gd fun h1 => ?_
  refine g_X3_30 h1 dX3_grow_2 ?_
  refine s_iconst (v := 1) dX3_grow_5 ci_1 ?_
  refine s_iadd dX3_grow_6 ?_
  refine s_bipush (v := 99) dX3_grow_7 cb_99 ?_
  refine s_min rfl rfl q_739 q_411 q_64 q_412 dX3_grow_9 ?_
  refine p_X3_30 h1 dX3_grow_12 ?_
  refine s_letM fun M2 => ?_
  exact s_vret rfl dX3_grow_15
theorem dX5_clear_0 : decode cX5_clear 0 = .ok (.aload_n 0, 1) := by decide +kernel
theorem dX5_clear_1 : decode cX5_clear 1 = .ok (.iconst 0, 1) := by decide +kernel
theorem dX5_clear_2 : decode cX5_clear 2 = .ok (.putfield 19, 3) := by decide +kernel
theorem dX5_clear_5 : decode cX5_clear 5 = .ok (.return_, 1) := by decide +kernel
def fX5_clear (k0 : Nat) (M : Mm) : Option (Unit × Mm) :=
  gd (isC layC k0 5) <|
  lt (wr M k0 1 (0 : Int32)) fun M2 =>
  some ((), M2)
theorem mX5_clear (l : Launch) (G : Gx) (k0 : Nat) (M : Mm) : Mt cQv l layC G 1 yX5_clear cX5_clear 1 none [rf G k0] M (fX5_clear k0 M) := by
  refine Mt.of2 (own := RX5) (lv := [(0, rf G k0)]) rfl (by decide +kernel) rfl rfl ?_
  unfold fX5_clear
  refine s_aload_n 0 dX5_clear_0 rfl rfl ?_
  refine s_iconst (v := 0) dX5_clear_1 ci_0 ?_
  refine s_gd fun h1 => ?_
  refine p_X5_19 h1 dX5_clear_2 ?_
  refine s_letM fun M2 => ?_
  exact s_vret rfl dX5_clear_5
theorem dX5_add_0 : decode cX5_add 0 = .ok (.aload_n 0, 1) := by decide +kernel
theorem dX5_add_1 : decode cX5_add 1 = .ok (.getfield 19, 3) := by decide +kernel
theorem dX5_add_4 : decode cX5_add 4 = .ok (.aload_n 0, 1) := by decide +kernel
theorem dX5_add_5 : decode cX5_add 5 = .ok (.getfield 13, 3) := by decide +kernel
theorem dX5_add_8 : decode cX5_add 8 = .ok (.arraylength, 1) := by decide +kernel
theorem dX5_add_9 : decode cX5_add 9 = .ok (.if_icmp .lt 5, 3) := by decide +kernel
theorem dX5_add_12 : decode cX5_add 12 = .ok (.iconst 0, 1) := by decide +kernel
theorem dX5_add_13 : decode cX5_add 13 = .ok (.ireturn, 1) := by decide +kernel
theorem dX5_add_14 : decode cX5_add 14 = .ok (.aload_n 0, 1) := by decide +kernel
theorem dX5_add_15 : decode cX5_add 15 = .ok (.getfield 13, 3) := by decide +kernel
theorem dX5_add_18 : decode cX5_add 18 = .ok (.aload_n 0, 1) := by decide +kernel
theorem dX5_add_19 : decode cX5_add 19 = .ok (.getfield 19, 3) := by decide +kernel
theorem dX5_add_22 : decode cX5_add 22 = .ok (.iload_n 1, 1) := by decide +kernel
theorem dX5_add_23 : decode cX5_add 23 = .ok (.iastore, 1) := by decide +kernel
theorem dX5_add_24 : decode cX5_add 24 = .ok (.aload_n 0, 1) := by decide +kernel
theorem dX5_add_25 : decode cX5_add 25 = .ok (.dup, 1) := by decide +kernel
theorem dX5_add_26 : decode cX5_add 26 = .ok (.getfield 19, 3) := by decide +kernel
theorem dX5_add_29 : decode cX5_add 29 = .ok (.iconst 1, 1) := by decide +kernel
theorem dX5_add_30 : decode cX5_add 30 = .ok (.iadd, 1) := by decide +kernel
theorem dX5_add_31 : decode cX5_add 31 = .ok (.putfield 19, 3) := by decide +kernel
theorem dX5_add_34 : decode cX5_add 34 = .ok (.iconst 1, 1) := by decide +kernel
theorem dX5_add_35 : decode cX5_add 35 = .ok (.ireturn, 1) := by decide +kernel
def fX5_add (k0 : Nat) (a1 : Int32) (M : Mm) : Option (Bool × Mm) :=
  gd (isC layC k0 5) <|
  gd (isN layC (fR layC k0 0) (aN layC (fR layC k0 0))) <|
  if (M k0 1) < (Int32.ofNat (aN layC (fR layC k0 0))) then (gd (inb (M k0 1) (aN layC (fR layC k0 0))) <|
  lt (wr M (fR layC k0 0) (ix (M k0 1)) a1) fun M4 =>
  lt (wr M4 k0 1 ((M4 k0 1) + (1 : Int32))) fun M5 =>
  some (true, M5))
  else some (false, M)
theorem mX5_add (l : Launch) (G : Gx) (k0 : Nat) (a1 : Int32) (M : Mm) : Mt cQz l layC G 1 yX5_add cX5_add 2 (some .boolean) [rf G k0, .int a1] M (fX5_add k0 a1 M) := by
  refine Mt.of2 (own := RX5) (lv := [(0, rf G k0), (1, .int a1)]) rfl (by decide +kernel) rfl rfl ?_
  unfold fX5_add
  refine s_aload_n 0 dX5_add_0 rfl rfl ?_
  refine s_gd fun h1 => ?_
  refine g_X5_19 h1 dX5_add_1 ?_
  refine s_aload_n 0 dX5_add_4 rfl rfl ?_
  refine g_X5_13 (q := fR layC k0 0) h1 rfl dX5_add_5 ?_
  refine s_gd fun h2 => ?_
  refine s_alen (n := (aN layC (fR layC k0 0))) (v := Int32.ofNat (aN layC (fR layC k0 0))) h2 rfl dX5_add_8 ?_
  refine s_icmplt (tgt := 14) dX5_add_9 (by decide) ?_ ?_
  · refine s_aload_n 0 dX5_add_14 rfl rfl ?_
    refine g_X5_13 (q := fR layC k0 0) h1 rfl dX5_add_15 ?_
    refine s_aload_n 0 dX5_add_18 rfl rfl ?_
    refine g_X5_19 h1 dX5_add_19 ?_
    refine s_iload_n 1 dX5_add_22 rfl rfl ?_
    refine s_gd fun h3 => ?_
    refine s_iast (n := (aN layC (fR layC k0 0))) h2 h3 dX5_add_23 ?_
    refine s_letM fun M4 => ?_
    refine s_aload_n 0 dX5_add_24 rfl rfl ?_
    refine s_dup dX5_add_25 rfl ?_
    refine g_X5_19 h1 dX5_add_26 ?_
    refine s_iconst (v := 1) dX5_add_29 ci_1 ?_
    refine s_iadd dX5_add_30 ?_
    refine p_X5_19 h1 dX5_add_31 ?_
    refine s_letM fun M5 => ?_
    refine s_iconst (v := 1) dX5_add_34 ci_1 ?_
    exact s_zret1 rfl dX5_add_35
  · refine s_iconst (v := 0) dX5_add_12 ci_0 ?_
    exact s_zret0 rfl dX5_add_13
theorem dX3_begin_0 : decode cX3_begin 0 = .ok (.aload_n 0, 1) := by decide +kernel
theorem dX3_begin_1 : decode cX3_begin 1 = .ok (.iload_n 1, 1) := by decide +kernel
theorem dX3_begin_2 : decode cX3_begin 2 = .ok (.putfield 15, 3) := by decide +kernel
theorem dX3_begin_5 : decode cX3_begin 5 = .ok (.aload_n 0, 1) := by decide +kernel
theorem dX3_begin_6 : decode cX3_begin 6 = .ok (.iload_n 2, 1) := by decide +kernel
theorem dX3_begin_7 : decode cX3_begin 7 = .ok (.putfield 18, 3) := by decide +kernel
theorem dX3_begin_10 : decode cX3_begin 10 = .ok (.aload_n 0, 1) := by decide +kernel
theorem dX3_begin_11 : decode cX3_begin 11 = .ok (.iload_n 3, 1) := by decide +kernel
theorem dX3_begin_12 : decode cX3_begin 12 = .ok (.putfield 21, 3) := by decide +kernel
theorem dX3_begin_15 : decode cX3_begin 15 = .ok (.aload_n 0, 1) := by decide +kernel
theorem dX3_begin_16 : decode cX3_begin 16 = .ok (.iload 4, 2) := by decide +kernel
theorem dX3_begin_18 : decode cX3_begin 18 = .ok (.putfield 24, 3) := by decide +kernel
theorem dX3_begin_21 : decode cX3_begin 21 = .ok (.aload_n 0, 1) := by decide +kernel
theorem dX3_begin_22 : decode cX3_begin 22 = .ok (.iconst 0, 1) := by decide +kernel
theorem dX3_begin_23 : decode cX3_begin 23 = .ok (.putfield 27, 3) := by decide +kernel
theorem dX3_begin_26 : decode cX3_begin 26 = .ok (.aload_n 0, 1) := by decide +kernel
theorem dX3_begin_27 : decode cX3_begin 27 = .ok (.iconst (-1), 1) := by decide +kernel
theorem dX3_begin_28 : decode cX3_begin 28 = .ok (.putfield 9, 3) := by decide +kernel
theorem dX3_begin_31 : decode cX3_begin 31 = .ok (.aload_n 0, 1) := by decide +kernel
theorem dX3_begin_32 : decode cX3_begin 32 = .ok (.iconst 0, 1) := by decide +kernel
theorem dX3_begin_33 : decode cX3_begin 33 = .ok (.putfield 30, 3) := by decide +kernel
theorem dX3_begin_36 : decode cX3_begin 36 = .ok (.return_, 1) := by decide +kernel
def fX3_begin (k0 : Nat) (a1 : Int32) (a2 : Int32) (a3 : Int32) (a4 : Int32) (M : Mm) : Option (Unit × Mm) :=
  gd (isC layC k0 3) <|
  lt (wr M k0 0 a1) fun M2 =>
  lt (wr M2 k0 1 a2) fun M3 =>
  lt (wr M3 k0 2 a3) fun M4 =>
  lt (wr M4 k0 3 a4) fun M5 =>
  lt (wr M5 k0 4 (0 : Int32)) fun M6 =>
  lt (wr M6 k0 5 (-1 : Int32)) fun M7 =>
  lt (wr M7 k0 6 (0 : Int32)) fun M8 =>
  some ((), M8)
theorem mX3_begin (l : Launch) (G : Gx) (k0 : Nat) (a1 : Int32) (a2 : Int32) (a3 : Int32) (a4 : Int32) (M : Mm) : Mt cQv l layC G 1 yX3_begin cX3_begin 5 none [rf G k0, .int a1, .int a2, .int a3, .int a4] M (fX3_begin k0 a1 a2 a3 a4 M) := by
  refine Mt.of2 (own := RX3) (lv := [(0, rf G k0), (1, .int a1), (2, .int a2), (3, .int a3), (4, .int a4)]) rfl (by decide +kernel) rfl rfl ?_
  unfold fX3_begin
  refine s_aload_n 0 dX3_begin_0 rfl rfl ?_
  refine s_iload_n 1 dX3_begin_1 rfl rfl ?_
  refine s_gd fun h1 => ?_
  refine p_X3_15 h1 dX3_begin_2 ?_
  refine s_letM fun M2 => ?_
  refine s_aload_n 0 dX3_begin_5 rfl rfl ?_
  refine s_iload_n 2 dX3_begin_6 rfl rfl ?_
  refine p_X3_18 h1 dX3_begin_7 ?_
  refine s_letM fun M3 => ?_
  refine s_aload_n 0 dX3_begin_10 rfl rfl ?_
  refine s_iload_n 3 dX3_begin_11 rfl rfl ?_
  refine p_X3_21 h1 dX3_begin_12 ?_
  refine s_letM fun M4 => ?_
  refine s_aload_n 0 dX3_begin_15 rfl rfl ?_
  refine s_iload 4 dX3_begin_16 rfl ?_
  refine p_X3_24 h1 dX3_begin_18 ?_
  refine s_letM fun M5 => ?_
  refine s_aload_n 0 dX3_begin_21 rfl rfl ?_
  refine s_iconst (v := 0) dX3_begin_22 ci_0 ?_
  refine p_X3_27 h1 dX3_begin_23 ?_
  refine s_letM fun M6 => ?_
  refine s_aload_n 0 dX3_begin_26 rfl rfl ?_
  refine s_iconst (v := -1) dX3_begin_27 ci_m1 ?_
  refine p_X3_9 h1 dX3_begin_28 ?_
  refine s_letM fun M7 => ?_
  refine s_aload_n 0 dX3_begin_31 rfl rfl ?_
  refine s_iconst (v := 0) dX3_begin_32 ci_0 ?_
  refine p_X3_30 h1 dX3_begin_33 ?_
  refine s_letM fun M8 => ?_
  exact s_vret rfl dX3_begin_36
theorem dX3_isOf_0 : decode cX3_isOf 0 = .ok (.aload_n 0, 1) := by decide +kernel
theorem dX3_isOf_1 : decode cX3_isOf 1 = .ok (.getfield 15, 3) := by decide +kernel
theorem dX3_isOf_4 : decode cX3_isOf 4 = .ok (.istore_n 2, 1) := by decide +kernel
theorem dX3_isOf_5 : decode cX3_isOf 5 = .ok (.iconst 0, 1) := by decide +kernel
theorem dX3_isOf_6 : decode cX3_isOf 6 = .ok (.istore_n 3, 1) := by decide +kernel
theorem dX3_isOf_7 : decode cX3_isOf 7 = .ok (.iload_n 3, 1) := by decide +kernel
theorem dX3_isOf_8 : decode cX3_isOf 8 = .ok (.bipush 7, 2) := by decide +kernel
theorem dX3_isOf_10 : decode cX3_isOf 10 = .ok (.if_icmp .ge 32, 3) := by decide +kernel
theorem dX3_isOf_13 : decode cX3_isOf 13 = .ok (.iload_n 2, 1) := by decide +kernel
theorem dX3_isOf_14 : decode cX3_isOf 14 = .ok (.iconst 0, 1) := by decide +kernel
theorem dX3_isOf_15 : decode cX3_isOf 15 = .ok (.bipush 6, 2) := by decide +kernel
theorem dX3_isOf_17 : decode cX3_isOf 17 = .ok (.invokestatic 33, 3) := by decide +kernel
theorem dX3_isOf_20 : decode cX3_isOf 20 = .ok (.ifCond .eq 22, 3) := by decide +kernel
theorem dX3_isOf_23 : decode cX3_isOf 23 = .ok (.iload_n 2, 1) := by decide +kernel
theorem dX3_isOf_24 : decode cX3_isOf 24 = .ok (.iload_n 1, 1) := by decide +kernel
theorem dX3_isOf_25 : decode cX3_isOf 25 = .ok (.if_icmp .ne 5, 3) := by decide +kernel
theorem dX3_isOf_28 : decode cX3_isOf 28 = .ok (.iconst 1, 1) := by decide +kernel
theorem dX3_isOf_29 : decode cX3_isOf 29 = .ok (.ireturn, 1) := by decide +kernel
theorem dX3_isOf_30 : decode cX3_isOf 30 = .ok (.getstatic 37, 3) := by decide +kernel
theorem dX3_isOf_33 : decode cX3_isOf 33 = .ok (.iload_n 2, 1) := by decide +kernel
theorem dX3_isOf_34 : decode cX3_isOf 34 = .ok (.iaload, 1) := by decide +kernel
theorem dX3_isOf_35 : decode cX3_isOf 35 = .ok (.istore_n 2, 1) := by decide +kernel
theorem dX3_isOf_36 : decode cX3_isOf 36 = .ok (.iinc 3 1, 3) := by decide +kernel
theorem dX3_isOf_39 : decode cX3_isOf 39 = .ok (.goto (-32), 3) := by decide +kernel
theorem dX3_isOf_42 : decode cX3_isOf 42 = .ok (.iconst 0, 1) := by decide +kernel
theorem dX3_isOf_43 : decode cX3_isOf 43 = .ok (.ireturn, 1) := by decide +kernel
def fX3_isOf_B42 (M : Mm) : Option (Bool × Mm) :=
  some (false, M)
theorem tX3_isOf_B42 (l : Launch) (G : Gx) (M : Mm) : Sim cQz l layC G 2 cX3_isOf RX3 4 (some .boolean) 42 [] [] M (fX3_isOf_B42 M) := by
  unfold fX3_isOf_B42
  refine s_iconst (v := 0) dX3_isOf_42 ci_0 ?_
  exact s_zret0 rfl dX3_isOf_43
def fX3_isOf_B28 (M : Mm) : Option (Bool × Mm) :=
  some (true, M)
theorem tX3_isOf_B28 (l : Launch) (G : Gx) (M : Mm) : Sim cQz l layC G 2 cX3_isOf RX3 4 (some .boolean) 28 [] [] M (fX3_isOf_B28 M) := by
  unfold fX3_isOf_B28
  refine s_iconst (v := 1) dX3_isOf_28 ci_1 ?_
  exact s_zret1 rfl dX3_isOf_29
def fX3_isOf_L7b (v1 : Int32) (q7 : Int32 → Int32 → Mm → Option (Bool × Mm)) (v3 : Int32) (v2 : Int32) (M : Mm) : Option (Bool × Mm) :=
  if (7 : Int32) ≤ v3 then (fX3_isOf_B42 M)
  else bd (fX9_isWithin v2 (0 : Int32) (6 : Int32) M) fun r3 M4 =>
  if r3 = true then (if v2 = v1 then (fX3_isOf_B28 M4)
  else gd (inb v2 7) <|
  lt (tabA (ix v2)) fun x6 =>
  q7 (v3 + 1) x6 M4)
  else fX3_isOf_B42 M4
def fX3_isOf_L7 (v1 : Int32) : Nat → Int32 → Int32 → Mm → Option (Bool × Mm)
  | 0 => fun _ _ _ => none
  | n + 1 => fX3_isOf_L7b v1 (fX3_isOf_L7 v1 n)
theorem tX3_isOf_L7b (l : Launch) (G : Gx) (v1 : Int32) (q7 : Int32 → Int32 → Mm → Option (Bool × Mm)) (hq7 : ∀ (v3 : Int32) (v2 : Int32) (M : Mm), Sim cQz l layC G 2 cX3_isOf RX3 4 (some .boolean) 7 [(3, .int v3), (2, .int v2), (1, .int v1)] [] M (q7 v3 v2 M)) (v3 : Int32) (v2 : Int32) (M : Mm) : Sim cQz l layC G 2 cX3_isOf RX3 4 (some .boolean) 7 [(3, .int v3), (2, .int v2), (1, .int v1)] [] M (fX3_isOf_L7b v1 q7 v3 v2 M) := by
  unfold fX3_isOf_L7b
  refine s_iload_n 0 dX3_isOf_7 rfl rfl ?_
  refine s_bipush (v := 7) dX3_isOf_8 cb_7 ?_
  refine s_icmpge (tgt := 42) dX3_isOf_10 (by decide) ?_ ?_
  · exact s_sub [] rfl (tX3_isOf_B42 l G M)
  · refine s_iload_n 1 dX3_isOf_13 rfl rfl ?_
    refine s_iconst (v := 0) dX3_isOf_14 ci_0 ?_
    refine s_bipush (v := 6) dX3_isOf_15 cb_6 ?_
    refine s_call_z (s_runSN (rest := []) (mX9_isWithin l G v2 (0 : Int32) (6 : Int32) M) ok_X9_isWithin k_X3_33 rfl rfl rfl rfl dX3_isOf_17) fun r3 M4 => ?_
    refine s_ifeqB (tgt := 42) dX3_isOf_20 (by decide) ?_ ?_
    · exact s_sub [] rfl (tX3_isOf_B42 l G M4)
    · refine s_iload_n 1 dX3_isOf_23 rfl rfl ?_
      refine s_iload_n 2 dX3_isOf_24 rfl rfl ?_
      refine s_icmpne (tgt := 30) dX3_isOf_25 (by decide) ?_ ?_
      · refine s_getsAN q_475 dX3_isOf_30 ?_
        refine s_iload_n 1 dX3_isOf_33 rfl rfl ?_
        refine s_gd fun h5 => ?_
        refine s_sldA h5 dX3_isOf_34 ?_
        refine s_leti fun x6 => ?_
        refine s_istore_n (lv' := [(2, .int x6), (3, .int v3), (1, .int v1)]) dX3_isOf_35 rfl rfl rfl ?_
        refine s_iinc (k := 1) (lv' := [(3, .int (v3 + 1)), (2, .int x6), (1, .int v1)]) dX3_isOf_36 rfl ci_1 rfl rfl ?_
        refine s_goto (tgt := 7) dX3_isOf_39 (by decide) ?_
        exact s_sub [0, 1, 2] rfl (hq7 (v3 + 1) x6 M4)
      · exact s_sub [] rfl (tX3_isOf_B28 l G M4)
theorem tX3_isOf_L7 (l : Launch) (G : Gx) (v1 : Int32) : ∀ (n : Nat) (v3 : Int32) (v2 : Int32) (M : Mm), Sim cQz l layC G 2 cX3_isOf RX3 4 (some .boolean) 7 [(3, .int v3), (2, .int v2), (1, .int v1)] [] M (fX3_isOf_L7 v1 n v3 v2 M)
  | 0, _, _, _ => s_none
  | n + 1, v3, v2, M => tX3_isOf_L7b l G v1 _ (tX3_isOf_L7 l G v1 n) v3 v2 M
def fX3_isOf (k0 : Nat) (a1 : Int32) (M : Mm) : Option (Bool × Mm) :=
  gd (isC layC k0 3) <|
  lt (M k0 0) fun x2 =>
  fX3_isOf_L7 a1 FU (0 : Int32) x2 M
theorem mX3_isOf (l : Launch) (G : Gx) (k0 : Nat) (a1 : Int32) (M : Mm) : Mt cQz l layC G 2 yX3_isOf cX3_isOf 4 (some .boolean) [rf G k0, .int a1] M (fX3_isOf k0 a1 M) := by
  refine Mt.of2 (own := RX3) (lv := [(0, rf G k0), (1, .int a1)]) rfl (by decide +kernel) rfl rfl ?_
  unfold fX3_isOf
  refine s_aload_n 0 dX3_isOf_0 rfl rfl ?_
  refine s_gd fun h1 => ?_
  refine g_X3_15 h1 dX3_isOf_1 ?_
  refine s_leti fun x2 => ?_
  refine s_istore_n (lv' := [(2, .int x2), (0, rf G k0), (1, .int a1)]) dX3_isOf_4 rfl rfl rfl ?_
  refine s_iconst (v := 0) dX3_isOf_5 ci_0 ?_
  refine s_istore_n (lv' := [(3, .int (0 : Int32)), (2, .int x2), (0, rf G k0), (1, .int a1)]) dX3_isOf_6 rfl rfl rfl ?_
  exact s_sub [0, 1, 3] rfl (tX3_isOf_L7 l G a1 FU (0 : Int32) x2 M)
theorem dX3_change_0 : decode cX3_change 0 = .ok (.iconst 0, 1) := by decide +kernel
theorem dX3_change_1 : decode cX3_change 1 = .ok (.istore_n 3, 1) := by decide +kernel
theorem dX3_change_2 : decode cX3_change 2 = .ok (.iload_n 1, 1) := by decide +kernel
theorem dX3_change_3 : decode cX3_change 3 = .ok (.tableswitch 72 0 4 #[33, 46, 72, 72, 59], 33) := by decide +kernel
theorem dX3_change_36 : decode cX3_change 36 = .ok (.aload_n 0, 1) := by decide +kernel
theorem dX3_change_37 : decode cX3_change 37 = .ok (.getfield 15, 3) := by decide +kernel
theorem dX3_change_40 : decode cX3_change 40 = .ok (.istore_n 3, 1) := by decide +kernel
theorem dX3_change_41 : decode cX3_change 41 = .ok (.aload_n 0, 1) := by decide +kernel
theorem dX3_change_42 : decode cX3_change 42 = .ok (.iload_n 2, 1) := by decide +kernel
theorem dX3_change_43 : decode cX3_change 43 = .ok (.putfield 15, 3) := by decide +kernel
theorem dX3_change_46 : decode cX3_change 46 = .ok (.goto 39, 3) := by decide +kernel
theorem dX3_change_49 : decode cX3_change 49 = .ok (.aload_n 0, 1) := by decide +kernel
theorem dX3_change_50 : decode cX3_change 50 = .ok (.getfield 18, 3) := by decide +kernel
theorem dX3_change_53 : decode cX3_change 53 = .ok (.istore_n 3, 1) := by decide +kernel
theorem dX3_change_54 : decode cX3_change 54 = .ok (.aload_n 0, 1) := by decide +kernel
theorem dX3_change_55 : decode cX3_change 55 = .ok (.iload_n 2, 1) := by decide +kernel
theorem dX3_change_56 : decode cX3_change 56 = .ok (.putfield 18, 3) := by decide +kernel
theorem dX3_change_59 : decode cX3_change 59 = .ok (.goto 26, 3) := by decide +kernel
theorem dX3_change_62 : decode cX3_change 62 = .ok (.aload_n 0, 1) := by decide +kernel
theorem dX3_change_63 : decode cX3_change 63 = .ok (.getfield 27, 3) := by decide +kernel
theorem dX3_change_66 : decode cX3_change 66 = .ok (.istore_n 3, 1) := by decide +kernel
theorem dX3_change_67 : decode cX3_change 67 = .ok (.aload_n 0, 1) := by decide +kernel
theorem dX3_change_68 : decode cX3_change 68 = .ok (.iload_n 2, 1) := by decide +kernel
theorem dX3_change_69 : decode cX3_change 69 = .ok (.putfield 27, 3) := by decide +kernel
theorem dX3_change_72 : decode cX3_change 72 = .ok (.goto 13, 3) := by decide +kernel
theorem dX3_change_75 : decode cX3_change 75 = .ok (.aload_n 0, 1) := by decide +kernel
theorem dX3_change_76 : decode cX3_change 76 = .ok (.getfield 30, 3) := by decide +kernel
theorem dX3_change_79 : decode cX3_change 79 = .ok (.istore_n 3, 1) := by decide +kernel
theorem dX3_change_80 : decode cX3_change 80 = .ok (.aload_n 0, 1) := by decide +kernel
theorem dX3_change_81 : decode cX3_change 81 = .ok (.iload_n 2, 1) := by decide +kernel
theorem dX3_change_82 : decode cX3_change 82 = .ok (.putfield 30, 3) := by decide +kernel
theorem dX3_change_85 : decode cX3_change 85 = .ok (.iload_n 3, 1) := by decide +kernel
theorem dX3_change_86 : decode cX3_change 86 = .ok (.ireturn, 1) := by decide +kernel
def fX3_change_B85 (v3 : Int32) (M : Mm) : Option (Int32 × Mm) :=
  some (v3, M)
theorem tX3_change_B85 (l : Launch) (G : Gx) (v3 : Int32) (M : Mm) : Sim cQi l layC G 1 cX3_change RX3 4 (some .int) 85 [(3, .int v3)] [] M (fX3_change_B85 v3 M) := by
  unfold fX3_change_B85
  refine s_iload_n 0 dX3_change_85 rfl rfl ?_
  exact s_iret rfl dX3_change_86
def fX3_change (k0 : Nat) (a1 : Int32) (a2 : Int32) (M : Mm) : Option (Int32 × Mm) :=
  if a1 = 0 then (gd (isC layC k0 3) <|
  lt (M k0 0) fun x2 =>
  lt (wr M k0 0 a2) fun M3 =>
  fX3_change_B85 x2 M3)
  else if a1 = 1 then (gd (isC layC k0 3) <|
  lt (M k0 1) fun x5 =>
  lt (wr M k0 1 a2) fun M6 =>
  fX3_change_B85 x5 M6)
  else if a1 = 2 then (gd (isC layC k0 3) <|
  lt (M k0 6) fun x8 =>
  lt (wr M k0 6 a2) fun M9 =>
  fX3_change_B85 x8 M9)
  else if a1 = 3 then (gd (isC layC k0 3) <|
  lt (M k0 6) fun x11 =>
  lt (wr M k0 6 a2) fun M12 =>
  fX3_change_B85 x11 M12)
  else if a1 = 4 then (gd (isC layC k0 3) <|
  lt (M k0 4) fun x14 =>
  lt (wr M k0 4 a2) fun M15 =>
  fX3_change_B85 x14 M15)
  else gd (isC layC k0 3) <|
  lt (M k0 6) fun x17 =>
  lt (wr M k0 6 a2) fun M18 =>
  fX3_change_B85 x17 M18
theorem mX3_change (l : Launch) (G : Gx) (k0 : Nat) (a1 : Int32) (a2 : Int32) (M : Mm) : Mt cQi l layC G 1 yX3_change cX3_change 4 (some .int) [rf G k0, .int a1, .int a2] M (fX3_change k0 a1 a2 M) := by
  refine Mt.of2 (own := RX3) (lv := [(0, rf G k0), (1, .int a1), (2, .int a2)]) rfl (by decide +kernel) rfl rfl ?_
  unfold fX3_change
  refine s_iconst (v := 0) dX3_change_0 ci_0 ?_
  refine s_istore_n (lv' := [(3, .int (0 : Int32)), (0, rf G k0), (1, .int a1), (2, .int a2)]) dX3_change_1 rfl rfl rfl ?_
  refine s_iload_n 2 dX3_change_2 rfl rfl ?_
  refine s_table (tgt := 75) dX3_change_3 (by decide) (by decide) (by decide) ?_
  refine lk_cons (k := 0) (tgt := 36) (by decide) (by decide) ?_ ?_
  · refine s_aload_n 1 dX3_change_36 rfl rfl ?_
    refine s_gd fun h1 => ?_
    refine g_X3_15 h1 dX3_change_37 ?_
    refine s_leti fun x2 => ?_
    refine s_istore_n (lv' := [(3, .int x2), (0, rf G k0), (1, .int a1), (2, .int a2)]) dX3_change_40 rfl rfl rfl ?_
    refine s_aload_n 1 dX3_change_41 rfl rfl ?_
    refine s_iload_n 3 dX3_change_42 rfl rfl ?_
    refine p_X3_15 h1 dX3_change_43 ?_
    refine s_letM fun M3 => ?_
    refine s_goto (tgt := 85) dX3_change_46 (by decide) ?_
    exact s_sub [0] rfl (tX3_change_B85 l G x2 M3)
  refine lk_cons (k := 1) (tgt := 49) (by decide) (by decide) ?_ ?_
  · refine s_aload_n 1 dX3_change_49 rfl rfl ?_
    refine s_gd fun h4 => ?_
    refine g_X3_18 h4 dX3_change_50 ?_
    refine s_leti fun x5 => ?_
    refine s_istore_n (lv' := [(3, .int x5), (0, rf G k0), (1, .int a1), (2, .int a2)]) dX3_change_53 rfl rfl rfl ?_
    refine s_aload_n 1 dX3_change_54 rfl rfl ?_
    refine s_iload_n 3 dX3_change_55 rfl rfl ?_
    refine p_X3_18 h4 dX3_change_56 ?_
    refine s_letM fun M6 => ?_
    refine s_goto (tgt := 85) dX3_change_59 (by decide) ?_
    exact s_sub [0] rfl (tX3_change_B85 l G x5 M6)
  refine lk_cons (k := 2) (tgt := 75) (by decide) (by decide) ?_ ?_
  · refine s_aload_n 1 dX3_change_75 rfl rfl ?_
    refine s_gd fun h7 => ?_
    refine g_X3_30 h7 dX3_change_76 ?_
    refine s_leti fun x8 => ?_
    refine s_istore_n (lv' := [(3, .int x8), (0, rf G k0), (1, .int a1), (2, .int a2)]) dX3_change_79 rfl rfl rfl ?_
    refine s_aload_n 1 dX3_change_80 rfl rfl ?_
    refine s_iload_n 3 dX3_change_81 rfl rfl ?_
    refine p_X3_30 h7 dX3_change_82 ?_
    refine s_letM fun M9 => ?_
    exact s_sub [0] rfl (tX3_change_B85 l G x8 M9)
  refine lk_cons (k := 3) (tgt := 75) (by decide) (by decide) ?_ ?_
  · refine s_aload_n 1 dX3_change_75 rfl rfl ?_
    refine s_gd fun h10 => ?_
    refine g_X3_30 h10 dX3_change_76 ?_
    refine s_leti fun x11 => ?_
    refine s_istore_n (lv' := [(3, .int x11), (0, rf G k0), (1, .int a1), (2, .int a2)]) dX3_change_79 rfl rfl rfl ?_
    refine s_aload_n 1 dX3_change_80 rfl rfl ?_
    refine s_iload_n 3 dX3_change_81 rfl rfl ?_
    refine p_X3_30 h10 dX3_change_82 ?_
    refine s_letM fun M12 => ?_
    exact s_sub [0] rfl (tX3_change_B85 l G x11 M12)
  refine lk_cons (k := 4) (tgt := 62) (by decide) (by decide) ?_ ?_
  · refine s_aload_n 1 dX3_change_62 rfl rfl ?_
    refine s_gd fun h13 => ?_
    refine g_X3_27 h13 dX3_change_63 ?_
    refine s_leti fun x14 => ?_
    refine s_istore_n (lv' := [(3, .int x14), (0, rf G k0), (1, .int a1), (2, .int a2)]) dX3_change_66 rfl rfl rfl ?_
    refine s_aload_n 1 dX3_change_67 rfl rfl ?_
    refine s_iload_n 3 dX3_change_68 rfl rfl ?_
    refine p_X3_27 h13 dX3_change_69 ?_
    refine s_letM fun M15 => ?_
    refine s_goto (tgt := 85) dX3_change_72 (by decide) ?_
    exact s_sub [0] rfl (tX3_change_B85 l G x14 M15)
  refine lk_nil (tgt := 75) (by decide) ?_
  refine s_aload_n 1 dX3_change_75 rfl rfl ?_
  refine s_gd fun h16 => ?_
  refine g_X3_30 h16 dX3_change_76 ?_
  refine s_leti fun x17 => ?_
  refine s_istore_n (lv' := [(3, .int x17), (0, rf G k0), (1, .int a1), (2, .int a2)]) dX3_change_79 rfl rfl rfl ?_
  refine s_aload_n 1 dX3_change_80 rfl rfl ?_
  refine s_iload_n 3 dX3_change_81 rfl rfl ?_
  refine p_X3_30 h16 dX3_change_82 ?_
  refine s_letM fun M18 => ?_
  exact s_sub [0] rfl (tX3_change_B85 l G x17 M18)
theorem dX4_isMissing_0 : decode cX4_isMissing 0 = .ok (.aload_n 0, 1) := by decide +kernel
theorem dX4_isMissing_1 : decode cX4_isMissing 1 = .ok (.getfield 20, 3) := by decide +kernel
theorem dX4_isMissing_4 : decode cX4_isMissing 4 = .ok (.ifCond .ne 7, 3) := by decide +kernel
theorem dX4_isMissing_7 : decode cX4_isMissing 7 = .ok (.iconst 1, 1) := by decide +kernel
theorem dX4_isMissing_8 : decode cX4_isMissing 8 = .ok (.goto 4, 3) := by decide +kernel
theorem dX4_isMissing_11 : decode cX4_isMissing 11 = .ok (.iconst 0, 1) := by decide +kernel
theorem dX4_isMissing_12 : decode cX4_isMissing 12 = .ok (.ireturn, 1) := by decide +kernel
def fX4_isMissing_B12 (w0 : Int32) (M : Mm) : Option (Bool × Mm) :=
  gd (isb w0) (some (decide (w0 = 1), M))
theorem tX4_isMissing_B12 (l : Launch) (G : Gx) (w0 : Int32) (M : Mm) : Sim cQz l layC G 1 cX4_isMissing RX4 1 (some .boolean) 12 [] [.int w0] M (fX4_isMissing_B12 w0 M) := by
  unfold fX4_isMissing_B12
  exact s_zretI rfl dX4_isMissing_12
def fX4_isMissing (k0 : Nat) (M : Mm) : Option (Bool × Mm) :=
  gd (isC layC k0 4) <|
  if (M k0 1) = 0 then (fX4_isMissing_B12 (1 : Int32) M)
  else fX4_isMissing_B12 (0 : Int32) M
theorem mX4_isMissing (l : Launch) (G : Gx) (k0 : Nat) (M : Mm) : Mt cQz l layC G 1 yX4_isMissing cX4_isMissing 1 (some .boolean) [rf G k0] M (fX4_isMissing k0 M) := by
  refine Mt.of2 (own := RX4) (lv := [(0, rf G k0)]) rfl (by decide +kernel) rfl rfl ?_
  unfold fX4_isMissing
  refine s_aload_n 0 dX4_isMissing_0 rfl rfl ?_
  refine s_gd fun h1 => ?_
  refine g_X4_20 h1 dX4_isMissing_1 ?_
  refine s_ifne (tgt := 11) dX4_isMissing_4 (by decide) ?_ ?_
  · refine s_iconst (v := 0) dX4_isMissing_11 ci_0 ?_
    exact s_sub [] rfl (tX4_isMissing_B12 l G (0 : Int32) M)
  · refine s_iconst (v := 1) dX4_isMissing_7 ci_1 ?_
    refine s_goto (tgt := 12) dX4_isMissing_8 (by decide) ?_
    exact s_sub [] rfl (tX4_isMissing_B12 l G (1 : Int32) M)
theorem dX4_lowestBits_0 : decode cX4_lowestBits 0 = .ok (.aload_n 0, 1) := by decide +kernel
theorem dX4_lowestBits_1 : decode cX4_lowestBits 1 = .ok (.getfield 20, 3) := by decide +kernel
theorem dX4_lowestBits_4 : decode cX4_lowestBits 4 = .ok (.lookupswitch 34 #[(8, 28), (16, 31)], 28) := by decide +kernel
theorem dX4_lowestBits_32 : decode cX4_lowestBits 32 = .ok (.iload_n 1, 1) := by decide +kernel
theorem dX4_lowestBits_33 : decode cX4_lowestBits 33 = .ok (.i2b, 1) := by decide +kernel
theorem dX4_lowestBits_34 : decode cX4_lowestBits 34 = .ok (.ireturn, 1) := by decide +kernel
theorem dX4_lowestBits_35 : decode cX4_lowestBits 35 = .ok (.iload_n 1, 1) := by decide +kernel
theorem dX4_lowestBits_36 : decode cX4_lowestBits 36 = .ok (.i2s, 1) := by decide +kernel
theorem dX4_lowestBits_37 : decode cX4_lowestBits 37 = .ok (.ireturn, 1) := by decide +kernel
theorem dX4_lowestBits_38 : decode cX4_lowestBits 38 = .ok (.iload_n 1, 1) := by decide +kernel
theorem dX4_lowestBits_39 : decode cX4_lowestBits 39 = .ok (.ireturn, 1) := by decide +kernel
def fX4_lowestBits (k0 : Nat) (a1 : Int32) (M : Mm) : Option (Int32 × Mm) :=
  gd (isC layC k0 4) <|
  lt (M k0 1) fun x2 =>
  if x2 = 8 then (some (a1.toInt8.toInt32, M))
  else if x2 = 16 then (some (a1.toInt16.toInt32, M))
  else some (a1, M)
theorem mX4_lowestBits (l : Launch) (G : Gx) (k0 : Nat) (a1 : Int32) (M : Mm) : Mt cQi l layC G 1 yX4_lowestBits cX4_lowestBits 2 (some .int) [rf G k0, .int a1] M (fX4_lowestBits k0 a1 M) := by
  refine Mt.of2 (own := RX4) (lv := [(0, rf G k0), (1, .int a1)]) rfl (by decide +kernel) rfl rfl ?_
  unfold fX4_lowestBits
  refine s_aload_n 0 dX4_lowestBits_0 rfl rfl ?_
  refine s_gd fun h1 => ?_
  refine g_X4_20 h1 dX4_lowestBits_1 ?_
  refine s_leti fun x2 => ?_
  refine s_lookup (tgt := 38) dX4_lowestBits_4 (by decide) (by decide) (by decide) ?_
  refine lk_cons (k := 8) (tgt := 32) (by decide) (by decide) ?_ ?_
  · refine s_iload_n 1 dX4_lowestBits_32 rfl rfl ?_
    refine s_i2b dX4_lowestBits_33 ?_
    exact s_iret rfl dX4_lowestBits_34
  refine lk_cons (k := 16) (tgt := 35) (by decide) (by decide) ?_ ?_
  · refine s_iload_n 1 dX4_lowestBits_35 rfl rfl ?_
    refine s_i2s dX4_lowestBits_36 ?_
    exact s_iret rfl dX4_lowestBits_37
  refine lk_nil (tgt := 38) (by decide) ?_
  refine s_iload_n 1 dX4_lowestBits_38 rfl rfl ?_
  exact s_iret rfl dX4_lowestBits_39
theorem dX5_change_0 : decode cX5_change 0 = .ok (.iload_n 1, 1) := by decide +kernel
theorem dX5_change_1 : decode cX5_change 1 = .ok (.iconst 0, 1) := by decide +kernel
theorem dX5_change_2 : decode cX5_change 2 = .ok (.aload_n 0, 1) := by decide +kernel
theorem dX5_change_3 : decode cX5_change 3 = .ok (.getfield 19, 3) := by decide +kernel
theorem dX5_change_6 : decode cX5_change 6 = .ok (.iconst 1, 1) := by decide +kernel
theorem dX5_change_7 : decode cX5_change 7 = .ok (.isub, 1) := by decide +kernel
theorem dX5_change_8 : decode cX5_change 8 = .ok (.invokestatic 23, 3) := by decide +kernel
theorem dX5_change_11 : decode cX5_change 11 = .ok (.ifCond .ne 5, 3) := by decide +kernel
theorem dX5_change_14 : decode cX5_change 14 = .ok (.iconst 0, 1) := by decide +kernel
theorem dX5_change_15 : decode cX5_change 15 = .ok (.ireturn, 1) := by decide +kernel
theorem dX5_change_16 : decode cX5_change 16 = .ok (.aload_n 0, 1) := by decide +kernel
theorem dX5_change_17 : decode cX5_change 17 = .ok (.getfield 13, 3) := by decide +kernel
theorem dX5_change_20 : decode cX5_change 20 = .ok (.iload_n 1, 1) := by decide +kernel
theorem dX5_change_21 : decode cX5_change 21 = .ok (.iload_n 2, 1) := by decide +kernel
theorem dX5_change_22 : decode cX5_change 22 = .ok (.iastore, 1) := by decide +kernel
theorem dX5_change_23 : decode cX5_change 23 = .ok (.iconst 1, 1) := by decide +kernel
theorem dX5_change_24 : decode cX5_change 24 = .ok (.ireturn, 1) := by decide +kernel
def fX5_change (k0 : Nat) (a1 : Int32) (a2 : Int32) (M : Mm) : Option (Bool × Mm) :=
  gd (isC layC k0 5) <|
  bd (fX9_isWithin a1 (0 : Int32) ((M k0 1) - (1 : Int32)) M) fun r2 M3 =>
  if r2 = true then (gd (isN layC (fR layC k0 0) (aN layC (fR layC k0 0))) <|
  gd (inb a1 (aN layC (fR layC k0 0))) <|
  lt (wr M3 (fR layC k0 0) (ix a1) a2) fun M6 =>
  some (true, M6))
  else some (false, M3)
theorem mX5_change (l : Launch) (G : Gx) (k0 : Nat) (a1 : Int32) (a2 : Int32) (M : Mm) : Mt cQz l layC G 2 yX5_change cX5_change 3 (some .boolean) [rf G k0, .int a1, .int a2] M (fX5_change k0 a1 a2 M) := by
  refine Mt.of2 (own := RX5) (lv := [(0, rf G k0), (1, .int a1), (2, .int a2)]) rfl (by decide +kernel) rfl rfl ?_
  unfold fX5_change
  refine s_iload_n 1 dX5_change_0 rfl rfl ?_
  refine s_iconst (v := 0) dX5_change_1 ci_0 ?_
  refine s_aload_n 0 dX5_change_2 rfl rfl ?_
  refine s_gd fun h1 => ?_
  refine g_X5_19 h1 dX5_change_3 ?_
  refine s_iconst (v := 1) dX5_change_6 ci_1 ?_
  refine s_isub dX5_change_7 ?_
  refine s_call_z (s_runSN (rest := []) (mX9_isWithin l G a1 (0 : Int32) ((M k0 1) - (1 : Int32)) M) ok_X9_isWithin k_X5_23 rfl rfl rfl rfl dX5_change_8) fun r2 M3 => ?_
  refine s_ifneB (tgt := 16) dX5_change_11 (by decide) ?_ ?_
  · refine s_aload_n 0 dX5_change_16 rfl rfl ?_
    refine g_X5_13 (q := fR layC k0 0) h1 rfl dX5_change_17 ?_
    refine s_iload_n 1 dX5_change_20 rfl rfl ?_
    refine s_iload_n 2 dX5_change_21 rfl rfl ?_
    refine s_gd fun h4 => ?_
    refine s_gd fun h5 => ?_
    refine s_iast (n := (aN layC (fR layC k0 0))) h4 h5 dX5_change_22 ?_
    refine s_letM fun M6 => ?_
    refine s_iconst (v := 1) dX5_change_23 ci_1 ?_
    exact s_zret1 rfl dX5_change_24
  · refine s_iconst (v := 0) dX5_change_14 ci_0 ?_
    exact s_zret0 rfl dX5_change_15
theorem dX5_beZeros_0 : decode cX5_beZeros 0 = .ok (.aload_n 0, 1) := by decide +kernel
theorem dX5_beZeros_1 : decode cX5_beZeros 1 = .ok (.iload_n 1, 1) := by decide +kernel
theorem dX5_beZeros_2 : decode cX5_beZeros 2 = .ok (.iconst 0, 1) := by decide +kernel
theorem dX5_beZeros_3 : decode cX5_beZeros 3 = .ok (.aload_n 0, 1) := by decide +kernel
theorem dX5_beZeros_4 : decode cX5_beZeros 4 = .ok (.getfield 13, 3) := by decide +kernel
theorem dX5_beZeros_7 : decode cX5_beZeros 7 = .ok (.arraylength, 1) := by decide +kernel
theorem dX5_beZeros_8 : decode cX5_beZeros 8 = .ok (.invokestatic 29, 3) := by decide +kernel
theorem dX5_beZeros_11 : decode cX5_beZeros 11 = .ok (.putfield 19, 3) := by decide +kernel
theorem dX5_beZeros_14 : decode cX5_beZeros 14 = .ok (.iconst 0, 1) := by decide +kernel
theorem dX5_beZeros_15 : decode cX5_beZeros 15 = .ok (.istore_n 2, 1) := by decide +kernel
theorem dX5_beZeros_16 : decode cX5_beZeros 16 = .ok (.iload_n 2, 1) := by decide +kernel
theorem dX5_beZeros_17 : decode cX5_beZeros 17 = .ok (.aload_n 0, 1) := by decide +kernel
theorem dX5_beZeros_18 : decode cX5_beZeros 18 = .ok (.getfield 19, 3) := by decide +kernel
theorem dX5_beZeros_21 : decode cX5_beZeros 21 = .ok (.if_icmp .ge 16, 3) := by decide +kernel
theorem dX5_beZeros_24 : decode cX5_beZeros 24 = .ok (.aload_n 0, 1) := by decide +kernel
theorem dX5_beZeros_25 : decode cX5_beZeros 25 = .ok (.getfield 13, 3) := by decide +kernel
theorem dX5_beZeros_28 : decode cX5_beZeros 28 = .ok (.iload_n 2, 1) := by decide +kernel
theorem dX5_beZeros_29 : decode cX5_beZeros 29 = .ok (.iconst 0, 1) := by decide +kernel
theorem dX5_beZeros_30 : decode cX5_beZeros 30 = .ok (.iastore, 1) := by decide +kernel
theorem dX5_beZeros_31 : decode cX5_beZeros 31 = .ok (.iinc 2 1, 3) := by decide +kernel
theorem dX5_beZeros_34 : decode cX5_beZeros 34 = .ok (.goto (-18), 3) := by decide +kernel
theorem dX5_beZeros_37 : decode cX5_beZeros 37 = .ok (.return_, 1) := by decide +kernel
def fX5_beZeros_B37 (M : Mm) : Option (Unit × Mm) :=
  some ((), M)
theorem tX5_beZeros_B37 (l : Launch) (G : Gx) (M : Mm) : Sim cQv l layC G 2 cX5_beZeros RX5 3 none 37 [] [] M (fX5_beZeros_B37 M) := by
  unfold fX5_beZeros_B37
  exact s_vret rfl dX5_beZeros_37
def fX5_beZeros_L16b (v0 : Nat) (q16 : Int32 → Mm → Option (Unit × Mm)) (v2 : Int32) (M : Mm) : Option (Unit × Mm) :=
  gd (isC layC v0 5) <|
  if (M v0 1) ≤ v2 then (fX5_beZeros_B37 M)
  else gd (isN layC (fR layC v0 0) (aN layC (fR layC v0 0))) <|
  gd (inb v2 (aN layC (fR layC v0 0))) <|
  lt (wr M (fR layC v0 0) (ix v2) (0 : Int32)) fun M9 =>
  q16 (v2 + 1) M9
def fX5_beZeros_L16 (v0 : Nat) : Nat → Int32 → Mm → Option (Unit × Mm)
  | 0 => fun _ _ => none
  | n + 1 => fX5_beZeros_L16b v0 (fX5_beZeros_L16 v0 n)
theorem tX5_beZeros_L16b (l : Launch) (G : Gx) (v0 : Nat) (q16 : Int32 → Mm → Option (Unit × Mm)) (hq16 : ∀ (v2 : Int32) (M : Mm), Sim cQv l layC G 2 cX5_beZeros RX5 3 none 16 [(2, .int v2), (0, rf G v0)] [] M (q16 v2 M)) (v2 : Int32) (M : Mm) : Sim cQv l layC G 2 cX5_beZeros RX5 3 none 16 [(2, .int v2), (0, rf G v0)] [] M (fX5_beZeros_L16b v0 q16 v2 M) := by
  unfold fX5_beZeros_L16b
  refine s_iload_n 0 dX5_beZeros_16 rfl rfl ?_
  refine s_aload_n 1 dX5_beZeros_17 rfl rfl ?_
  refine s_gd fun h6 => ?_
  refine g_X5_19 h6 dX5_beZeros_18 ?_
  refine s_icmpge (tgt := 37) dX5_beZeros_21 (by decide) ?_ ?_
  · exact s_sub [] rfl (tX5_beZeros_B37 l G M)
  · refine s_aload_n 1 dX5_beZeros_24 rfl rfl ?_
    refine g_X5_13 (q := fR layC v0 0) h6 rfl dX5_beZeros_25 ?_
    refine s_iload_n 0 dX5_beZeros_28 rfl rfl ?_
    refine s_iconst (v := 0) dX5_beZeros_29 ci_0 ?_
    refine s_gd fun h7 => ?_
    refine s_gd fun h8 => ?_
    refine s_iast (n := (aN layC (fR layC v0 0))) h7 h8 dX5_beZeros_30 ?_
    refine s_letM fun M9 => ?_
    refine s_iinc (k := 0) (lv' := [(2, .int (v2 + 1)), (0, rf G v0)]) dX5_beZeros_31 rfl ci_1 rfl rfl ?_
    refine s_goto (tgt := 16) dX5_beZeros_34 (by decide) ?_
    exact s_sub [0, 1] rfl (hq16 (v2 + 1) M9)
theorem tX5_beZeros_L16 (l : Launch) (G : Gx) (v0 : Nat) : ∀ (n : Nat) (v2 : Int32) (M : Mm), Sim cQv l layC G 2 cX5_beZeros RX5 3 none 16 [(2, .int v2), (0, rf G v0)] [] M (fX5_beZeros_L16 v0 n v2 M)
  | 0, _, _ => s_none
  | n + 1, v2, M => tX5_beZeros_L16b l G v0 _ (tX5_beZeros_L16 l G v0 n) v2 M
def fX5_beZeros (k0 : Nat) (a1 : Int32) (M : Mm) : Option (Unit × Mm) :=
  gd (isC layC k0 5) <|
  gd (isN layC (fR layC k0 0) (aN layC (fR layC k0 0))) <|
  bd (fX9_hold a1 (0 : Int32) (Int32.ofNat (aN layC (fR layC k0 0))) M) fun r3 M4 =>
  lt (wr M4 k0 1 r3) fun M5 =>
  fX5_beZeros_L16 k0 FU (0 : Int32) M5
theorem mX5_beZeros (l : Launch) (G : Gx) (k0 : Nat) (a1 : Int32) (M : Mm) : Mt cQv l layC G 2 yX5_beZeros cX5_beZeros 3 none [rf G k0, .int a1] M (fX5_beZeros k0 a1 M) := by
  refine Mt.of2 (own := RX5) (lv := [(0, rf G k0), (1, .int a1)]) rfl (by decide +kernel) rfl rfl ?_
  unfold fX5_beZeros
  refine s_aload_n 0 dX5_beZeros_0 rfl rfl ?_
  refine s_iload_n 1 dX5_beZeros_1 rfl rfl ?_
  refine s_iconst (v := 0) dX5_beZeros_2 ci_0 ?_
  refine s_aload_n 0 dX5_beZeros_3 rfl rfl ?_
  refine s_gd fun h1 => ?_
  refine g_X5_13 (q := fR layC k0 0) h1 rfl dX5_beZeros_4 ?_
  refine s_gd fun h2 => ?_
  refine s_alen (n := (aN layC (fR layC k0 0))) (v := Int32.ofNat (aN layC (fR layC k0 0))) h2 rfl dX5_beZeros_7 ?_
  refine s_call_i (s_runSN (rest := [rf G k0]) (mX9_hold l G a1 (0 : Int32) (Int32.ofNat (aN layC (fR layC k0 0))) M) ok_X9_hold k_X5_29 rfl rfl rfl rfl dX5_beZeros_8) fun r3 M4 => ?_
  refine p_X5_19 h1 dX5_beZeros_11 ?_
  refine s_letM fun M5 => ?_
  refine s_iconst (v := 0) dX5_beZeros_14 ci_0 ?_
  refine s_istore_n (lv' := [(2, .int (0 : Int32)), (0, rf G k0), (1, .int a1)]) dX5_beZeros_15 rfl rfl rfl ?_
  exact s_sub [0, 1] rfl (tX5_beZeros_L16 l G k0 FU (0 : Int32) M5)
theorem dX5_takeFrom_0 : decode cX5_takeFrom 0 = .ok (.aload_n 0, 1) := by decide +kernel
theorem dX5_takeFrom_1 : decode cX5_takeFrom 1 = .ok (.aload_n 1, 1) := by decide +kernel
theorem dX5_takeFrom_2 : decode cX5_takeFrom 2 = .ok (.getfield 19, 3) := by decide +kernel
theorem dX5_takeFrom_5 : decode cX5_takeFrom 5 = .ok (.aload_n 0, 1) := by decide +kernel
theorem dX5_takeFrom_6 : decode cX5_takeFrom 6 = .ok (.getfield 13, 3) := by decide +kernel
theorem dX5_takeFrom_9 : decode cX5_takeFrom 9 = .ok (.arraylength, 1) := by decide +kernel
theorem dX5_takeFrom_10 : decode cX5_takeFrom 10 = .ok (.invokestatic 33, 3) := by decide +kernel
theorem dX5_takeFrom_13 : decode cX5_takeFrom 13 = .ok (.putfield 19, 3) := by decide +kernel
theorem dX5_takeFrom_16 : decode cX5_takeFrom 16 = .ok (.aload_n 1, 1) := by decide +kernel
theorem dX5_takeFrom_17 : decode cX5_takeFrom 17 = .ok (.getfield 13, 3) := by decide +kernel
theorem dX5_takeFrom_20 : decode cX5_takeFrom 20 = .ok (.iconst 0, 1) := by decide +kernel
theorem dX5_takeFrom_21 : decode cX5_takeFrom 21 = .ok (.aload_n 0, 1) := by decide +kernel
theorem dX5_takeFrom_22 : decode cX5_takeFrom 22 = .ok (.getfield 13, 3) := by decide +kernel
theorem dX5_takeFrom_25 : decode cX5_takeFrom 25 = .ok (.iconst 0, 1) := by decide +kernel
theorem dX5_takeFrom_26 : decode cX5_takeFrom 26 = .ok (.aload_n 0, 1) := by decide +kernel
theorem dX5_takeFrom_27 : decode cX5_takeFrom 27 = .ok (.getfield 19, 3) := by decide +kernel
theorem dX5_takeFrom_30 : decode cX5_takeFrom 30 = .ok (.invokestatic 36, 3) := by decide +kernel
theorem dX5_takeFrom_33 : decode cX5_takeFrom 33 = .ok (.return_, 1) := by decide +kernel
def fX5_takeFrom (k0 : Nat) (a1 : Nat) (M : Mm) : Option (Unit × Mm) :=
  gd (isC layC a1 5) <|
  gd (isC layC k0 5) <|
  gd (isN layC (fR layC k0 0) (aN layC (fR layC k0 0))) <|
  lt (wr M k0 1 (if (Int32.ofNat (aN layC (fR layC k0 0))) < (M a1 1) then (Int32.ofNat (aN layC (fR layC k0 0))) else (M a1 1))) fun M4 =>
  gd (isN layC (fR layC a1 0) (aN layC (fR layC a1 0))) <|
  gd ((!(decide ((0 : Int32) < 0)) && !(decide ((0 : Int32) < 0)) && !(decide ((M4 k0 1) < 0)) && decide ((0 : Int32).toNatClampNeg + (M4 k0 1).toNatClampNeg ≤ (aN layC (fR layC a1 0))) && decide ((0 : Int32).toNatClampNeg + (M4 k0 1).toNatClampNeg ≤ (aN layC (fR layC k0 0))))) <|
  lt (cpm M4 (fR layC a1 0) (ix (0 : Int32)) (fR layC k0 0) (ix (0 : Int32)) (ix (M4 k0 1))) fun M7 =>
  some ((), M7)
theorem mX5_takeFrom (l : Launch) (G : Gx) (k0 : Nat) (a1 : Nat) (M : Mm) : Mt cQv l layC G 1 yX5_takeFrom cX5_takeFrom 2 none [rf G k0, rf G a1] M (fX5_takeFrom k0 a1 M) := by
  refine Mt.of2 (own := RX5) (lv := [(0, rf G k0), (1, rf G a1)]) rfl (by decide +kernel) rfl rfl ?_
  unfold fX5_takeFrom
  refine s_aload_n 0 dX5_takeFrom_0 rfl rfl ?_
  refine s_aload_n 1 dX5_takeFrom_1 rfl rfl ?_
  refine s_gd fun h1 => ?_
  refine g_X5_19 h1 dX5_takeFrom_2 ?_
  refine s_aload_n 0 dX5_takeFrom_5 rfl rfl ?_
  refine s_gd fun h2 => ?_
  refine g_X5_13 (q := fR layC k0 0) h2 rfl dX5_takeFrom_6 ?_
  refine s_gd fun h3 => ?_
  refine s_alen (n := (aN layC (fR layC k0 0))) (v := Int32.ofNat (aN layC (fR layC k0 0))) h3 rfl dX5_takeFrom_9 ?_
  refine s_min rfl rfl q_656 q_411 q_64 q_412 dX5_takeFrom_10 ?_
  refine p_X5_19 h2 dX5_takeFrom_13 ?_
  refine s_letM fun M4 => ?_
  refine s_aload_n 1 dX5_takeFrom_16 rfl rfl ?_
  refine g_X5_13 (q := fR layC a1 0) h1 rfl dX5_takeFrom_17 ?_
  refine s_iconst (v := 0) dX5_takeFrom_20 ci_0 ?_
  refine s_aload_n 0 dX5_takeFrom_21 rfl rfl ?_
  refine g_X5_13 (q := fR layC k0 0) h2 rfl dX5_takeFrom_22 ?_
  refine s_iconst (v := 0) dX5_takeFrom_25 ci_0 ?_
  refine s_aload_n 0 dX5_takeFrom_26 rfl rfl ?_
  refine g_X5_19 h2 dX5_takeFrom_27 ?_
  refine s_gd fun h5 => ?_
  refine s_gd fun h6 => ?_
  refine s_copy (n0 := (aN layC (fR layC a1 0))) (n1 := (aN layC (fR layC k0 0))) h5 h3 h6 rfl rfl q_657 q_659 q_658 q_77 dX5_takeFrom_30 ?_
  refine s_letM fun M7 => ?_
  exact s_vret rfl dX5_takeFrom_33
theorem dX5_has_0 : decode cX5_has 0 = .ok (.iload_n 1, 1) := by decide +kernel
theorem dX5_has_1 : decode cX5_has 1 = .ok (.iconst 0, 1) := by decide +kernel
theorem dX5_has_2 : decode cX5_has 2 = .ok (.aload_n 0, 1) := by decide +kernel
theorem dX5_has_3 : decode cX5_has 3 = .ok (.getfield 19, 3) := by decide +kernel
theorem dX5_has_6 : decode cX5_has 6 = .ok (.invokestatic 23, 3) := by decide +kernel
theorem dX5_has_9 : decode cX5_has 9 = .ok (.ifCond .eq 21, 3) := by decide +kernel
theorem dX5_has_12 : decode cX5_has 12 = .ok (.iload_n 2, 1) := by decide +kernel
theorem dX5_has_13 : decode cX5_has 13 = .ok (.iconst 0, 1) := by decide +kernel
theorem dX5_has_14 : decode cX5_has 14 = .ok (.aload_n 0, 1) := by decide +kernel
theorem dX5_has_15 : decode cX5_has 15 = .ok (.getfield 19, 3) := by decide +kernel
theorem dX5_has_18 : decode cX5_has 18 = .ok (.iload_n 1, 1) := by decide +kernel
theorem dX5_has_19 : decode cX5_has 19 = .ok (.isub, 1) := by decide +kernel
theorem dX5_has_20 : decode cX5_has 20 = .ok (.invokestatic 23, 3) := by decide +kernel
theorem dX5_has_23 : decode cX5_has 23 = .ok (.ifCond .eq 7, 3) := by decide +kernel
theorem dX5_has_26 : decode cX5_has 26 = .ok (.iconst 1, 1) := by decide +kernel
theorem dX5_has_27 : decode cX5_has 27 = .ok (.goto 4, 3) := by decide +kernel
theorem dX5_has_30 : decode cX5_has 30 = .ok (.iconst 0, 1) := by decide +kernel
theorem dX5_has_31 : decode cX5_has 31 = .ok (.ireturn, 1) := by decide +kernel
def fX5_has_B31 (w0 : Int32) (M : Mm) : Option (Bool × Mm) :=
  gd (isb w0) (some (decide (w0 = 1), M))
theorem tX5_has_B31 (l : Launch) (G : Gx) (w0 : Int32) (M : Mm) : Sim cQz l layC G 2 cX5_has RX5 3 (some .boolean) 31 [] [.int w0] M (fX5_has_B31 w0 M) := by
  unfold fX5_has_B31
  exact s_zretI rfl dX5_has_31
def fX5_has_B30 (M : Mm) : Option (Bool × Mm) :=
  fX5_has_B31 (0 : Int32) M
theorem tX5_has_B30 (l : Launch) (G : Gx) (M : Mm) : Sim cQz l layC G 2 cX5_has RX5 3 (some .boolean) 30 [] [] M (fX5_has_B30 M) := by
  unfold fX5_has_B30
  refine s_iconst (v := 0) dX5_has_30 ci_0 ?_
  exact s_sub [] rfl (tX5_has_B31 l G (0 : Int32) M)
def fX5_has (k0 : Nat) (a1 : Int32) (a2 : Int32) (M : Mm) : Option (Bool × Mm) :=
  gd (isC layC k0 5) <|
  bd (fX9_isWithin a1 (0 : Int32) (M k0 1) M) fun r2 M3 =>
  if r2 = true then (bd (fX9_isWithin a2 (0 : Int32) ((M3 k0 1) - a1) M3) fun r4 M5 =>
  if r4 = true then (fX5_has_B31 (1 : Int32) M5)
  else fX5_has_B30 M5)
  else fX5_has_B30 M3
theorem mX5_has (l : Launch) (G : Gx) (k0 : Nat) (a1 : Int32) (a2 : Int32) (M : Mm) : Mt cQz l layC G 2 yX5_has cX5_has 3 (some .boolean) [rf G k0, .int a1, .int a2] M (fX5_has k0 a1 a2 M) := by
  refine Mt.of2 (own := RX5) (lv := [(0, rf G k0), (1, .int a1), (2, .int a2)]) rfl (by decide +kernel) rfl rfl ?_
  unfold fX5_has
  refine s_iload_n 1 dX5_has_0 rfl rfl ?_
  refine s_iconst (v := 0) dX5_has_1 ci_0 ?_
  refine s_aload_n 0 dX5_has_2 rfl rfl ?_
  refine s_gd fun h1 => ?_
  refine g_X5_19 h1 dX5_has_3 ?_
  refine s_call_z (s_runSN (rest := []) (mX9_isWithin l G a1 (0 : Int32) (M k0 1) M) ok_X9_isWithin k_X5_23 rfl rfl rfl rfl dX5_has_6) fun r2 M3 => ?_
  refine s_ifeqB (tgt := 30) dX5_has_9 (by decide) ?_ ?_
  · exact s_sub [] rfl (tX5_has_B30 l G M3)
  · refine s_iload_n 2 dX5_has_12 rfl rfl ?_
    refine s_iconst (v := 0) dX5_has_13 ci_0 ?_
    refine s_aload_n 0 dX5_has_14 rfl rfl ?_
    refine g_X5_19 h1 dX5_has_15 ?_
    refine s_iload_n 1 dX5_has_18 rfl rfl ?_
    refine s_isub dX5_has_19 ?_
    refine s_call_z (s_runSN (rest := []) (mX9_isWithin l G a2 (0 : Int32) ((M3 k0 1) - a1) M3) ok_X9_isWithin k_X5_23 rfl rfl rfl rfl dX5_has_20) fun r4 M5 => ?_
    refine s_ifeqB (tgt := 30) dX5_has_23 (by decide) ?_ ?_
    · exact s_sub [] rfl (tX5_has_B30 l G M5)
    · refine s_iconst (v := 1) dX5_has_26 ci_1 ?_
      refine s_goto (tgt := 31) dX5_has_27 (by decide) ?_
      exact s_sub [] rfl (tX5_has_B31 l G (1 : Int32) M5)
theorem dX5_bring_0 : decode cX5_bring 0 = .ok (.aload_n 0, 1) := by decide +kernel
theorem dX5_bring_1 : decode cX5_bring 1 = .ok (.iload_n 1, 1) := by decide +kernel
theorem dX5_bring_2 : decode cX5_bring 2 = .ok (.iload 4, 2) := by decide +kernel
theorem dX5_bring_4 : decode cX5_bring 4 = .ok (.invokevirtual 42, 3) := by decide +kernel
theorem dX5_bring_7 : decode cX5_bring 7 = .ok (.ifCond .eq 13, 3) := by decide +kernel
theorem dX5_bring_10 : decode cX5_bring 10 = .ok (.aload_n 2, 1) := by decide +kernel
theorem dX5_bring_11 : decode cX5_bring 11 = .ok (.iload_n 3, 1) := by decide +kernel
theorem dX5_bring_12 : decode cX5_bring 12 = .ok (.iload 4, 2) := by decide +kernel
theorem dX5_bring_14 : decode cX5_bring 14 = .ok (.invokevirtual 42, 3) := by decide +kernel
theorem dX5_bring_17 : decode cX5_bring 17 = .ok (.ifCond .ne 5, 3) := by decide +kernel
theorem dX5_bring_20 : decode cX5_bring 20 = .ok (.iconst 0, 1) := by decide +kernel
theorem dX5_bring_21 : decode cX5_bring 21 = .ok (.ireturn, 1) := by decide +kernel
theorem dX5_bring_22 : decode cX5_bring 22 = .ok (.aload_n 2, 1) := by decide +kernel
theorem dX5_bring_23 : decode cX5_bring 23 = .ok (.getfield 13, 3) := by decide +kernel
theorem dX5_bring_26 : decode cX5_bring 26 = .ok (.iload_n 3, 1) := by decide +kernel
theorem dX5_bring_27 : decode cX5_bring 27 = .ok (.aload_n 0, 1) := by decide +kernel
theorem dX5_bring_28 : decode cX5_bring 28 = .ok (.getfield 13, 3) := by decide +kernel
theorem dX5_bring_31 : decode cX5_bring 31 = .ok (.iload_n 1, 1) := by decide +kernel
theorem dX5_bring_32 : decode cX5_bring 32 = .ok (.iload 4, 2) := by decide +kernel
theorem dX5_bring_34 : decode cX5_bring 34 = .ok (.invokestatic 36, 3) := by decide +kernel
theorem dX5_bring_37 : decode cX5_bring 37 = .ok (.iconst 1, 1) := by decide +kernel
theorem dX5_bring_38 : decode cX5_bring 38 = .ok (.ireturn, 1) := by decide +kernel
def fX5_bring_B20 (M : Mm) : Option (Bool × Mm) :=
  some (false, M)
theorem tX5_bring_B20 (l : Launch) (G : Gx) (M : Mm) : Sim cQz l layC G 3 cX5_bring RX5 5 (some .boolean) 20 [] [] M (fX5_bring_B20 M) := by
  unfold fX5_bring_B20
  refine s_iconst (v := 0) dX5_bring_20 ci_0 ?_
  exact s_zret0 rfl dX5_bring_21
def fX5_bring (k0 : Nat) (a1 : Int32) (a2 : Nat) (a3 : Int32) (a4 : Int32) (M : Mm) : Option (Bool × Mm) :=
  gd (isC layC k0 5) <|
  bd (fX5_has k0 a1 a4 M) fun r2 M3 =>
  if r2 = true then (gd (isC layC a2 5) <|
  bd (fX5_has a2 a3 a4 M3) fun r5 M6 =>
  if r5 = true then (gd (isN layC (fR layC a2 0) (aN layC (fR layC a2 0))) <|
  gd (isN layC (fR layC k0 0) (aN layC (fR layC k0 0))) <|
  gd ((!(decide (a3 < 0)) && !(decide (a1 < 0)) && !(decide (a4 < 0)) && decide (a3.toNatClampNeg + a4.toNatClampNeg ≤ (aN layC (fR layC a2 0))) && decide (a1.toNatClampNeg + a4.toNatClampNeg ≤ (aN layC (fR layC k0 0))))) <|
  lt (cpm M6 (fR layC a2 0) (ix a3) (fR layC k0 0) (ix a1) (ix a4)) fun M10 =>
  some (true, M10))
  else fX5_bring_B20 M6)
  else fX5_bring_B20 M3
theorem mX5_bring (l : Launch) (G : Gx) (k0 : Nat) (a1 : Int32) (a2 : Nat) (a3 : Int32) (a4 : Int32) (M : Mm) : Mt cQz l layC G 3 yX5_bring cX5_bring 5 (some .boolean) [rf G k0, .int a1, rf G a2, .int a3, .int a4] M (fX5_bring k0 a1 a2 a3 a4 M) := by
  refine Mt.of2 (own := RX5) (lv := [(0, rf G k0), (1, .int a1), (2, rf G a2), (3, .int a3), (4, .int a4)]) rfl (by decide +kernel) rfl rfl ?_
  unfold fX5_bring
  refine s_aload_n 0 dX5_bring_0 rfl rfl ?_
  refine s_iload_n 1 dX5_bring_1 rfl rfl ?_
  refine s_iload 4 dX5_bring_2 rfl ?_
  refine s_gd fun h1 => ?_
  refine s_call_z (s_runV (ci := 5) (rest := []) h1 rfl (mX5_has l G k0 a1 a4 M) ok_X5_has k_X5_42 rfl rfl rfl rfl dX5_bring_4) fun r2 M3 => ?_
  refine s_ifeqB (tgt := 20) dX5_bring_7 (by decide) ?_ ?_
  · exact s_sub [] rfl (tX5_bring_B20 l G M3)
  · refine s_aload_n 2 dX5_bring_10 rfl rfl ?_
    refine s_iload_n 3 dX5_bring_11 rfl rfl ?_
    refine s_iload 4 dX5_bring_12 rfl ?_
    refine s_gd fun h4 => ?_
    refine s_call_z (s_runV (ci := 5) (rest := []) h4 rfl (mX5_has l G a2 a3 a4 M3) ok_X5_has k_X5_42 rfl rfl rfl rfl dX5_bring_14) fun r5 M6 => ?_
    refine s_ifneB (tgt := 22) dX5_bring_17 (by decide) ?_ ?_
    · refine s_aload_n 2 dX5_bring_22 rfl rfl ?_
      refine g_X5_13 (q := fR layC a2 0) h4 rfl dX5_bring_23 ?_
      refine s_iload_n 3 dX5_bring_26 rfl rfl ?_
      refine s_aload_n 0 dX5_bring_27 rfl rfl ?_
      refine g_X5_13 (q := fR layC k0 0) h1 rfl dX5_bring_28 ?_
      refine s_iload_n 1 dX5_bring_31 rfl rfl ?_
      refine s_iload 4 dX5_bring_32 rfl ?_
      refine s_gd fun h7 => ?_
      refine s_gd fun h8 => ?_
      refine s_gd fun h9 => ?_
      refine s_copy (n0 := (aN layC (fR layC a2 0))) (n1 := (aN layC (fR layC k0 0))) h7 h8 h9 rfl rfl q_657 q_659 q_658 q_77 dX5_bring_34 ?_
      refine s_letM fun M10 => ?_
      refine s_iconst (v := 1) dX5_bring_37 ci_1 ?_
      exact s_zret1 rfl dX5_bring_38
    · exact s_sub [] rfl (tX5_bring_B20 l G M6)
theorem dX9_isSmallLetter_0 : decode cX9_isSmallLetter 0 = .ok (.iload_n 0, 1) := by decide +kernel
theorem dX9_isSmallLetter_1 : decode cX9_isSmallLetter 1 = .ok (.bipush 97, 2) := by decide +kernel
theorem dX9_isSmallLetter_3 : decode cX9_isSmallLetter 3 = .ok (.bipush 122, 2) := by decide +kernel
theorem dX9_isSmallLetter_5 : decode cX9_isSmallLetter 5 = .ok (.invokestatic 83, 3) := by decide +kernel
theorem dX9_isSmallLetter_8 : decode cX9_isSmallLetter 8 = .ok (.ireturn, 1) := by decide +kernel
def fX9_isSmallLetter (a1 : Int32) (M : Mm) : Option (Bool × Mm) :=
  bd (fX9_isWithin a1 (97 : Int32) (122 : Int32) M) fun r1 M2 =>
  some (r1, M2)
theorem mX9_isSmallLetter (l : Launch) (G : Gx) (a1 : Int32) (M : Mm) : Mt cQz l layC G 2 yX9_isSmallLetter cX9_isSmallLetter 1 (some .boolean) [.int a1] M (fX9_isSmallLetter a1 M) := by
  refine Mt.of2 (own := RX9) (lv := [(0, .int a1)]) rfl (by decide +kernel) rfl rfl ?_
  unfold fX9_isSmallLetter
  refine s_iload_n 0 dX9_isSmallLetter_0 rfl rfl ?_
  refine s_bipush (v := 97) dX9_isSmallLetter_1 cb_97 ?_
  refine s_bipush (v := 122) dX9_isSmallLetter_3 cb_122 ?_
  refine s_call_z (s_runS (rest := []) (mX9_isWithin l G a1 (97 : Int32) (122 : Int32) M) ok_X9_isWithin k_X9_83 rfl rfl rfl rfl dX9_isSmallLetter_5) fun r1 M2 => ?_
  exact s_zretB rfl dX9_isSmallLetter_8
theorem dX9_glyphOf_0 : decode cX9_glyphOf 0 = .ok (.iload_n 0, 1) := by decide +kernel
theorem dX9_glyphOf_1 : decode cX9_glyphOf 1 = .ok (.bipush 97, 2) := by decide +kernel
theorem dX9_glyphOf_3 : decode cX9_glyphOf 3 = .ok (.isub, 1) := by decide +kernel
theorem dX9_glyphOf_4 : decode cX9_glyphOf 4 = .ok (.iconst 1, 1) := by decide +kernel
theorem dX9_glyphOf_5 : decode cX9_glyphOf 5 = .ok (.iadd, 1) := by decide +kernel
theorem dX9_glyphOf_6 : decode cX9_glyphOf 6 = .ok (.ireturn, 1) := by decide +kernel
def fX9_glyphOf (a1 : Int32) (M : Mm) : Option (Int32 × Mm) :=
  some ((a1 - (97 : Int32)) + (1 : Int32), M)
theorem mX9_glyphOf (l : Launch) (G : Gx) (a1 : Int32) (M : Mm) : Mt cQi l layC G 1 yX9_glyphOf cX9_glyphOf 1 (some .int) [.int a1] M (fX9_glyphOf a1 M) := by
  refine Mt.of2 (own := RX9) (lv := [(0, .int a1)]) rfl (by decide +kernel) rfl rfl ?_
  unfold fX9_glyphOf
  refine s_iload_n 0 dX9_glyphOf_0 rfl rfl ?_
  refine s_bipush (v := 97) dX9_glyphOf_1 cb_97 ?_
  refine s_isub dX9_glyphOf_3 ?_
  refine s_iconst (v := 1) dX9_glyphOf_4 ci_1 ?_
  refine s_iadd dX9_glyphOf_5 ?_
  exact s_iret rfl dX9_glyphOf_6
theorem dX9_mostToSet_0 : decode cX9_mostToSet 0 = .ok (.iload_n 0, 1) := by decide +kernel
theorem dX9_mostToSet_1 : decode cX9_mostToSet 1 = .ok (.tableswitch 54 0 6 #[43, 46, 54, 54, 49, 54, 51], 43) := by decide +kernel
theorem dX9_mostToSet_44 : decode cX9_mostToSet 44 = .ok (.bipush 6, 2) := by decide +kernel
theorem dX9_mostToSet_46 : decode cX9_mostToSet 46 = .ok (.ireturn, 1) := by decide +kernel
theorem dX9_mostToSet_47 : decode cX9_mostToSet 47 = .ok (.bipush 9, 2) := by decide +kernel
theorem dX9_mostToSet_49 : decode cX9_mostToSet 49 = .ok (.ireturn, 1) := by decide +kernel
theorem dX9_mostToSet_50 : decode cX9_mostToSet 50 = .ok (.iconst 3, 1) := by decide +kernel
theorem dX9_mostToSet_51 : decode cX9_mostToSet 51 = .ok (.ireturn, 1) := by decide +kernel
theorem dX9_mostToSet_52 : decode cX9_mostToSet 52 = .ok (.bipush 99, 2) := by decide +kernel
theorem dX9_mostToSet_54 : decode cX9_mostToSet 54 = .ok (.ireturn, 1) := by decide +kernel
theorem dX9_mostToSet_55 : decode cX9_mostToSet 55 = .ok (.iconst (-1), 1) := by decide +kernel
theorem dX9_mostToSet_56 : decode cX9_mostToSet 56 = .ok (.ireturn, 1) := by decide +kernel
def fX9_mostToSet (a1 : Int32) (M : Mm) : Option (Int32 × Mm) :=
  if a1 = 0 then (some ((6 : Int32), M))
  else if a1 = 1 then (some ((9 : Int32), M))
  else if a1 = 2 then (some ((-1 : Int32), M))
  else if a1 = 3 then (some ((-1 : Int32), M))
  else if a1 = 4 then (some ((3 : Int32), M))
  else if a1 = 5 then (some ((-1 : Int32), M))
  else if a1 = 6 then (some ((99 : Int32), M))
  else some ((-1 : Int32), M)
theorem mX9_mostToSet (l : Launch) (G : Gx) (a1 : Int32) (M : Mm) : Mt cQi l layC G 1 yX9_mostToSet cX9_mostToSet 1 (some .int) [.int a1] M (fX9_mostToSet a1 M) := by
  refine Mt.of2 (own := RX9) (lv := [(0, .int a1)]) rfl (by decide +kernel) rfl rfl ?_
  unfold fX9_mostToSet
  refine s_iload_n 0 dX9_mostToSet_0 rfl rfl ?_
  refine s_table (tgt := 55) dX9_mostToSet_1 (by decide) (by decide) (by decide) ?_
  refine lk_cons (k := 0) (tgt := 44) (by decide) (by decide) ?_ ?_
  · refine s_bipush (v := 6) dX9_mostToSet_44 cb_6 ?_
    exact s_iret rfl dX9_mostToSet_46
  refine lk_cons (k := 1) (tgt := 47) (by decide) (by decide) ?_ ?_
  · refine s_bipush (v := 9) dX9_mostToSet_47 cb_9 ?_
    exact s_iret rfl dX9_mostToSet_49
  refine lk_cons (k := 2) (tgt := 55) (by decide) (by decide) ?_ ?_
  · refine s_iconst (v := -1) dX9_mostToSet_55 ci_m1 ?_
    exact s_iret rfl dX9_mostToSet_56
  refine lk_cons (k := 3) (tgt := 55) (by decide) (by decide) ?_ ?_
  · refine s_iconst (v := -1) dX9_mostToSet_55 ci_m1 ?_
    exact s_iret rfl dX9_mostToSet_56
  refine lk_cons (k := 4) (tgt := 50) (by decide) (by decide) ?_ ?_
  · refine s_iconst (v := 3) dX9_mostToSet_50 ci_3 ?_
    exact s_iret rfl dX9_mostToSet_51
  refine lk_cons (k := 5) (tgt := 55) (by decide) (by decide) ?_ ?_
  · refine s_iconst (v := -1) dX9_mostToSet_55 ci_m1 ?_
    exact s_iret rfl dX9_mostToSet_56
  refine lk_cons (k := 6) (tgt := 52) (by decide) (by decide) ?_ ?_
  · refine s_bipush (v := 99) dX9_mostToSet_52 cb_99 ?_
    exact s_iret rfl dX9_mostToSet_54
  refine lk_nil (tgt := 55) (by decide) ?_
  refine s_iconst (v := -1) dX9_mostToSet_55 ci_m1 ?_
  exact s_iret rfl dX9_mostToSet_56
theorem dX9_isPlate_0 : decode cX9_isPlate 0 = .ok (.iload_n 0, 1) := by decide +kernel
theorem dX9_isPlate_1 : decode cX9_isPlate 1 = .ok (.iconst 0, 1) := by decide +kernel
theorem dX9_isPlate_2 : decode cX9_isPlate 2 = .ok (.iconst 3, 1) := by decide +kernel
theorem dX9_isPlate_3 : decode cX9_isPlate 3 = .ok (.invokestatic 83, 3) := by decide +kernel
theorem dX9_isPlate_6 : decode cX9_isPlate 6 = .ok (.ireturn, 1) := by decide +kernel
def fX9_isPlate (a1 : Int32) (M : Mm) : Option (Bool × Mm) :=
  bd (fX9_isWithin a1 (0 : Int32) (3 : Int32) M) fun r1 M2 =>
  some (r1, M2)
theorem mX9_isPlate (l : Launch) (G : Gx) (a1 : Int32) (M : Mm) : Mt cQz l layC G 2 yX9_isPlate cX9_isPlate 1 (some .boolean) [.int a1] M (fX9_isPlate a1 M) := by
  refine Mt.of2 (own := RX9) (lv := [(0, .int a1)]) rfl (by decide +kernel) rfl rfl ?_
  unfold fX9_isPlate
  refine s_iload_n 0 dX9_isPlate_0 rfl rfl ?_
  refine s_iconst (v := 0) dX9_isPlate_1 ci_0 ?_
  refine s_iconst (v := 3) dX9_isPlate_2 ci_3 ?_
  refine s_call_z (s_runS (rest := []) (mX9_isWithin l G a1 (0 : Int32) (3 : Int32) M) ok_X9_isWithin k_X9_83 rfl rfl rfl rfl dX9_isPlate_3) fun r1 M2 => ?_
  exact s_zretB rfl dX9_isPlate_6
