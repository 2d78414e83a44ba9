/-! MAKING: the reference. -/
def MD0 : Mm := fun a j => if a = 1 then (if 8 ≤ j ∧ j < 12 then 5 else if j = 2 then 1000 else if j = 7 then 1 else 0) else 0
abbrev wMod (G : Gx) (ad : Nat → Nat) : va_W := WS layM (gA G ad) MD0
set_option maxRecDepth 20000 in
theorem ct_X10 (l : Launch) (G : Gx) (h0 : Nat) : CT l G 1 yX10_init cX10_init 2 [] h0 10 dX10 (wMod G) 16 3020 := by
  refine CT.of (lv := [(0, .ref h0)]) rfl (by decide) rfl rfl rfl (fun sz => ?_)
  refine c_ws (ws' := ([(h0, .inr (10, [.null, .null, .null, .int 0, .null, .int 0, .int 0, .int 0, .int 0, .null, .null, .null, .null, .null, .null, .int 0, .int 0, .null, .null, .int 0, .int 0, .int 0, .null, .null, .null, .null]))] : va_W)) rfl ?_
  refine c_aload_n 0 cdX10_init_0 rfl rfl ?_
  refine c_obj iw_985 iw_84 iw_85 rfl cdX10_init_1 ?_
  refine c_aload_n 0 cdX10_init_4 rfl rfl ?_
  refine c_sipush (v := 626) cdX10_init_5 (by decide +kernel) ?_
  refine c_newI (N := 626) iw_125 (by decide) (by decide +kernel) rfl (Nat.le_of_ble_eq_true rfl) (Nat.le_of_ble_eq_true rfl) cdX10_init_8 (fun q1 => ?_)
  refine c_ws (ws' := ([(h0, .inr (10, [.null, .null, .null, .int 0, .null, .int 0, .int 0, .int 0, .int 0, .null, .null, .null, .null, .null, .null, .int 0, .int 0, .null, .null, .int 0, .int 0, .int 0, .null, .null, .null, .null])), ints G (q1) 626 (fun _ => 0)] : va_W)) rfl ?_
  refine c_putF (q0 := 0) (k := 0) (ty0 := tyX10) rfl rfl inG10 tyX10_ok nmX10 rfl iw_986 rfl rfl rfl rfl rfl rfl cdX10_init_10 ?_
  refine c_ws (ws' := ([(h0, .inr (10, [.ref q1, .null, .null, .int 0, .null, .int 0, .int 0, .int 0, .int 0, .null, .null, .null, .null, .null, .null, .int 0, .int 0, .null, .null, .int 0, .int 0, .int 0, .null, .null, .null, .null])), ints G (q1) 626 (fun _ => 0)] : va_W)) rfl ?_
  refine c_aload_n 0 cdX10_init_13 rfl rfl ?_
  refine c_sipush (v := 626) cdX10_init_14 (by decide +kernel) ?_
  refine c_newI (N := 626) iw_125 (by decide) (by decide +kernel) rfl (Nat.le_of_ble_eq_true rfl) (Nat.le_of_ble_eq_true rfl) cdX10_init_17 (fun q2 => ?_)
  refine c_ws (ws' := ([(h0, .inr (10, [.ref q1, .null, .null, .int 0, .null, .int 0, .int 0, .int 0, .int 0, .null, .null, .null, .null, .null, .null, .int 0, .int 0, .null, .null, .int 0, .int 0, .int 0, .null, .null, .null, .null])), ints G (q1) 626 (fun _ => 0), ints G (q2) 626 (fun _ => 0)] : va_W)) rfl ?_
  refine c_putF (q0 := 0) (k := 1) (ty0 := tyX10) rfl rfl inG10 tyX10_ok nmX10 rfl iw_987 rfl rfl rfl rfl rfl rfl cdX10_init_19 ?_
  refine c_ws (ws' := ([(h0, .inr (10, [.ref q1, .ref q2, .null, .int 0, .null, .int 0, .int 0, .int 0, .int 0, .null, .null, .null, .null, .null, .null, .int 0, .int 0, .null, .null, .int 0, .int 0, .int 0, .null, .null, .null, .null])), ints G (q1) 626 (fun _ => 0), ints G (q2) 626 (fun _ => 0)] : va_W)) rfl ?_
  refine c_aload_n 0 cdX10_init_22 rfl rfl ?_
  refine c_sipush (v := 626) cdX10_init_23 (by decide +kernel) ?_
  refine c_newI (N := 626) iw_125 (by decide) (by decide +kernel) rfl (Nat.le_of_ble_eq_true rfl) (Nat.le_of_ble_eq_true rfl) cdX10_init_26 (fun q3 => ?_)
  refine c_ws (ws' := ([(h0, .inr (10, [.ref q1, .ref q2, .null, .int 0, .null, .int 0, .int 0, .int 0, .int 0, .null, .null, .null, .null, .null, .null, .int 0, .int 0, .null, .null, .int 0, .int 0, .int 0, .null, .null, .null, .null])), ints G (q1) 626 (fun _ => 0), ints G (q2) 626 (fun _ => 0), ints G (q3) 626 (fun _ => 0)] : va_W)) rfl ?_
  refine c_putF (q0 := 0) (k := 2) (ty0 := tyX10) rfl rfl inG10 tyX10_ok nmX10 rfl iw_988 rfl rfl rfl rfl rfl rfl cdX10_init_28 ?_
  refine c_ws (ws' := ([(h0, .inr (10, [.ref q1, .ref q2, .ref q3, .int 0, .null, .int 0, .int 0, .int 0, .int 0, .null, .null, .null, .null, .null, .null, .int 0, .int 0, .null, .null, .int 0, .int 0, .int 0, .null, .null, .null, .null])), ints G (q1) 626 (fun _ => 0), ints G (q2) 626 (fun _ => 0), ints G (q3) 626 (fun _ => 0)] : va_W)) rfl ?_
  refine c_aload_n 0 cdX10_init_31 rfl rfl ?_
  refine c_bipush (v := 7) cdX10_init_32 (by decide +kernel) ?_
  refine c_newI (N := 7) iw_125 (by decide) (by decide +kernel) rfl (Nat.le_of_ble_eq_true rfl) (Nat.le_of_ble_eq_true rfl) cdX10_init_34 (fun q4 => ?_)
  refine c_ws (ws' := ([(h0, .inr (10, [.ref q1, .ref q2, .ref q3, .int 0, .null, .int 0, .int 0, .int 0, .int 0, .null, .null, .null, .null, .null, .null, .int 0, .int 0, .null, .null, .int 0, .int 0, .int 0, .null, .null, .null, .null])), ints G (q1) 626 (fun _ => 0), ints G (q2) 626 (fun _ => 0), ints G (q3) 626 (fun _ => 0), ints G (q4) 7 (fun _ => 0)] : va_W)) rfl ?_
  refine c_putF (q0 := 0) (k := 4) (ty0 := tyX10) rfl rfl inG10 tyX10_ok nmX10 rfl iw_990 rfl rfl rfl rfl rfl rfl cdX10_init_36 ?_
  refine c_ws (ws' := ([(h0, .inr (10, [.ref q1, .ref q2, .ref q3, .int 0, .ref q4, .int 0, .int 0, .int 0, .int 0, .null, .null, .null, .null, .null, .null, .int 0, .int 0, .null, .null, .int 0, .int 0, .int 0, .null, .null, .null, .null])), ints G (q1) 626 (fun _ => 0), ints G (q2) 626 (fun _ => 0), ints G (q3) 626 (fun _ => 0), ints G (q4) 7 (fun _ => 0)] : va_W)) rfl ?_
  refine c_aload_n 0 cdX10_init_39 rfl rfl ?_
  refine c_bipush (v := 124) cdX10_init_40 (by decide +kernel) ?_
  refine c_newI (N := 124) iw_125 (by decide) (by decide +kernel) rfl (Nat.le_of_ble_eq_true rfl) (Nat.le_of_ble_eq_true rfl) cdX10_init_42 (fun q5 => ?_)
  refine c_ws (ws' := ([(h0, .inr (10, [.ref q1, .ref q2, .ref q3, .int 0, .ref q4, .int 0, .int 0, .int 0, .int 0, .null, .null, .null, .null, .null, .null, .int 0, .int 0, .null, .null, .int 0, .int 0, .int 0, .null, .null, .null, .null])), ints G (q1) 626 (fun _ => 0), ints G (q2) 626 (fun _ => 0), ints G (q3) 626 (fun _ => 0), ints G (q4) 7 (fun _ => 0), ints G (q5) 124 (fun _ => 0)] : va_W)) rfl ?_
  refine c_putF (q0 := 0) (k := 9) (ty0 := tyX10) rfl rfl inG10 tyX10_ok nmX10 rfl iw_995 rfl rfl rfl rfl rfl rfl cdX10_init_44 ?_
  refine c_ws (ws' := ([(h0, .inr (10, [.ref q1, .ref q2, .ref q3, .int 0, .ref q4, .int 0, .int 0, .int 0, .int 0, .ref q5, .null, .null, .null, .null, .null, .int 0, .int 0, .null, .null, .int 0, .int 0, .int 0, .null, .null, .null, .null])), ints G (q1) 626 (fun _ => 0), ints G (q2) 626 (fun _ => 0), ints G (q3) 626 (fun _ => 0), ints G (q4) 7 (fun _ => 0), ints G (q5) 124 (fun _ => 0)] : va_W)) rfl ?_
  refine c_aload_n 0 cdX10_init_47 rfl rfl ?_
  refine c_sipush (v := 128) cdX10_init_48 (by decide +kernel) ?_
  refine c_newI (N := 128) iw_125 (by decide) (by decide +kernel) rfl (Nat.le_of_ble_eq_true rfl) (Nat.le_of_ble_eq_true rfl) cdX10_init_51 (fun q6 => ?_)
  refine c_ws (ws' := ([(h0, .inr (10, [.ref q1, .ref q2, .ref q3, .int 0, .ref q4, .int 0, .int 0, .int 0, .int 0, .ref q5, .null, .null, .null, .null, .null, .int 0, .int 0, .null, .null, .int 0, .int 0, .int 0, .null, .null, .null, .null])), ints G (q1) 626 (fun _ => 0), ints G (q2) 626 (fun _ => 0), ints G (q3) 626 (fun _ => 0), ints G (q4) 7 (fun _ => 0), ints G (q5) 124 (fun _ => 0), ints G (q6) 128 (fun _ => 0)] : va_W)) rfl ?_
  refine c_putF (q0 := 0) (k := 10) (ty0 := tyX10) rfl rfl inG10 tyX10_ok nmX10 rfl iw_996 rfl rfl rfl rfl rfl rfl cdX10_init_53 ?_
  refine c_ws (ws' := ([(h0, .inr (10, [.ref q1, .ref q2, .ref q3, .int 0, .ref q4, .int 0, .int 0, .int 0, .int 0, .ref q5, .ref q6, .null, .null, .null, .null, .int 0, .int 0, .null, .null, .int 0, .int 0, .int 0, .null, .null, .null, .null])), ints G (q1) 626 (fun _ => 0), ints G (q2) 626 (fun _ => 0), ints G (q3) 626 (fun _ => 0), ints G (q4) 7 (fun _ => 0), ints G (q5) 124 (fun _ => 0), ints G (q6) 128 (fun _ => 0)] : va_W)) rfl ?_
  refine c_aload_n 0 cdX10_init_56 rfl rfl ?_
  refine c_bipush (v := 64) cdX10_init_57 (by decide +kernel) ?_
  refine c_newI (N := 64) iw_125 (by decide) (by decide +kernel) rfl (Nat.le_of_ble_eq_true rfl) (Nat.le_of_ble_eq_true rfl) cdX10_init_59 (fun q7 => ?_)
  refine c_ws (ws' := ([(h0, .inr (10, [.ref q1, .ref q2, .ref q3, .int 0, .ref q4, .int 0, .int 0, .int 0, .int 0, .ref q5, .ref q6, .null, .null, .null, .null, .int 0, .int 0, .null, .null, .int 0, .int 0, .int 0, .null, .null, .null, .null])), ints G (q1) 626 (fun _ => 0), ints G (q2) 626 (fun _ => 0), ints G (q3) 626 (fun _ => 0), ints G (q4) 7 (fun _ => 0), ints G (q5) 124 (fun _ => 0), ints G (q6) 128 (fun _ => 0), ints G (q7) 64 (fun _ => 0)] : va_W)) rfl ?_
  refine c_putF (q0 := 0) (k := 11) (ty0 := tyX10) rfl rfl inG10 tyX10_ok nmX10 rfl iw_997 rfl rfl rfl rfl rfl rfl cdX10_init_61 ?_
  refine c_ws (ws' := ([(h0, .inr (10, [.ref q1, .ref q2, .ref q3, .int 0, .ref q4, .int 0, .int 0, .int 0, .int 0, .ref q5, .ref q6, .ref q7, .null, .null, .null, .int 0, .int 0, .null, .null, .int 0, .int 0, .int 0, .null, .null, .null, .null])), ints G (q1) 626 (fun _ => 0), ints G (q2) 626 (fun _ => 0), ints G (q3) 626 (fun _ => 0), ints G (q4) 7 (fun _ => 0), ints G (q5) 124 (fun _ => 0), ints G (q6) 128 (fun _ => 0), ints G (q7) 64 (fun _ => 0)] : va_W)) rfl ?_
  refine c_aload_n 0 cdX10_init_64 rfl rfl ?_
  refine c_bipush (v := 27) cdX10_init_65 (by decide +kernel) ?_
  refine c_newI (N := 27) iw_125 (by decide) (by decide +kernel) rfl (Nat.le_of_ble_eq_true rfl) (Nat.le_of_ble_eq_true rfl) cdX10_init_67 (fun q8 => ?_)
  refine c_ws (ws' := ([(h0, .inr (10, [.ref q1, .ref q2, .ref q3, .int 0, .ref q4, .int 0, .int 0, .int 0, .int 0, .ref q5, .ref q6, .ref q7, .null, .null, .null, .int 0, .int 0, .null, .null, .int 0, .int 0, .int 0, .null, .null, .null, .null])), ints G (q1) 626 (fun _ => 0), ints G (q2) 626 (fun _ => 0), ints G (q3) 626 (fun _ => 0), ints G (q4) 7 (fun _ => 0), ints G (q5) 124 (fun _ => 0), ints G (q6) 128 (fun _ => 0), ints G (q7) 64 (fun _ => 0), ints G (q8) 27 (fun _ => 0)] : va_W)) rfl ?_
  refine c_putF (q0 := 0) (k := 12) (ty0 := tyX10) rfl rfl inG10 tyX10_ok nmX10 rfl iw_998 rfl rfl rfl rfl rfl rfl cdX10_init_69 ?_
  refine c_ws (ws' := ([(h0, .inr (10, [.ref q1, .ref q2, .ref q3, .int 0, .ref q4, .int 0, .int 0, .int 0, .int 0, .ref q5, .ref q6, .ref q7, .ref q8, .null, .null, .int 0, .int 0, .null, .null, .int 0, .int 0, .int 0, .null, .null, .null, .null])), ints G (q1) 626 (fun _ => 0), ints G (q2) 626 (fun _ => 0), ints G (q3) 626 (fun _ => 0), ints G (q4) 7 (fun _ => 0), ints G (q5) 124 (fun _ => 0), ints G (q6) 128 (fun _ => 0), ints G (q7) 64 (fun _ => 0), ints G (q8) 27 (fun _ => 0)] : va_W)) rfl ?_
  refine c_aload_n 0 cdX10_init_72 rfl rfl ?_
  refine c_iconst (v := 4) cdX10_init_73 (by decide +kernel) ?_
  refine c_newI (N := 4) iw_125 (by decide) (by decide +kernel) rfl (Nat.le_of_ble_eq_true rfl) (Nat.le_of_ble_eq_true rfl) cdX10_init_74 (fun q9 => ?_)
  refine c_ws (ws' := ([(h0, .inr (10, [.ref q1, .ref q2, .ref q3, .int 0, .ref q4, .int 0, .int 0, .int 0, .int 0, .ref q5, .ref q6, .ref q7, .ref q8, .null, .null, .int 0, .int 0, .null, .null, .int 0, .int 0, .int 0, .null, .null, .null, .null])), ints G (q1) 626 (fun _ => 0), ints G (q2) 626 (fun _ => 0), ints G (q3) 626 (fun _ => 0), ints G (q4) 7 (fun _ => 0), ints G (q5) 124 (fun _ => 0), ints G (q6) 128 (fun _ => 0), ints G (q7) 64 (fun _ => 0), ints G (q8) 27 (fun _ => 0), ints G (q9) 4 (fun _ => 0)] : va_W)) rfl ?_
  refine c_putF (q0 := 0) (k := 13) (ty0 := tyX10) rfl rfl inG10 tyX10_ok nmX10 rfl iw_999 rfl rfl rfl rfl rfl rfl cdX10_init_76 ?_
  refine c_ws (ws' := ([(h0, .inr (10, [.ref q1, .ref q2, .ref q3, .int 0, .ref q4, .int 0, .int 0, .int 0, .int 0, .ref q5, .ref q6, .ref q7, .ref q8, .ref q9, .null, .int 0, .int 0, .null, .null, .int 0, .int 0, .int 0, .null, .null, .null, .null])), ints G (q1) 626 (fun _ => 0), ints G (q2) 626 (fun _ => 0), ints G (q3) 626 (fun _ => 0), ints G (q4) 7 (fun _ => 0), ints G (q5) 124 (fun _ => 0), ints G (q6) 128 (fun _ => 0), ints G (q7) 64 (fun _ => 0), ints G (q8) 27 (fun _ => 0), ints G (q9) 4 (fun _ => 0)] : va_W)) rfl ?_
  refine c_aload_n 0 cdX10_init_79 rfl rfl ?_
  refine c_iconst (v := 4) cdX10_init_80 (by decide +kernel) ?_
  refine c_newI (N := 4) iw_125 (by decide) (by decide +kernel) rfl (Nat.le_of_ble_eq_true rfl) (Nat.le_of_ble_eq_true rfl) cdX10_init_81 (fun q10 => ?_)
  refine c_ws (ws' := ([(h0, .inr (10, [.ref q1, .ref q2, .ref q3, .int 0, .ref q4, .int 0, .int 0, .int 0, .int 0, .ref q5, .ref q6, .ref q7, .ref q8, .ref q9, .null, .int 0, .int 0, .null, .null, .int 0, .int 0, .int 0, .null, .null, .null, .null])), ints G (q1) 626 (fun _ => 0), ints G (q2) 626 (fun _ => 0), ints G (q3) 626 (fun _ => 0), ints G (q4) 7 (fun _ => 0), ints G (q5) 124 (fun _ => 0), ints G (q6) 128 (fun _ => 0), ints G (q7) 64 (fun _ => 0), ints G (q8) 27 (fun _ => 0), ints G (q9) 4 (fun _ => 0), ints G (q10) 4 (fun _ => 0)] : va_W)) rfl ?_
  refine c_putF (q0 := 0) (k := 14) (ty0 := tyX10) rfl rfl inG10 tyX10_ok nmX10 rfl iw_1000 rfl rfl rfl rfl rfl rfl cdX10_init_83 ?_
  refine c_ws (ws' := ([(h0, .inr (10, [.ref q1, .ref q2, .ref q3, .int 0, .ref q4, .int 0, .int 0, .int 0, .int 0, .ref q5, .ref q6, .ref q7, .ref q8, .ref q9, .ref q10, .int 0, .int 0, .null, .null, .int 0, .int 0, .int 0, .null, .null, .null, .null])), ints G (q1) 626 (fun _ => 0), ints G (q2) 626 (fun _ => 0), ints G (q3) 626 (fun _ => 0), ints G (q4) 7 (fun _ => 0), ints G (q5) 124 (fun _ => 0), ints G (q6) 128 (fun _ => 0), ints G (q7) 64 (fun _ => 0), ints G (q8) 27 (fun _ => 0), ints G (q9) 4 (fun _ => 0), ints G (q10) 4 (fun _ => 0)] : va_W)) rfl ?_
  refine c_aload_n 0 cdX10_init_86 rfl rfl ?_
  refine c_sipush (v := 626) cdX10_init_87 (by decide +kernel) ?_
  refine c_newI (N := 626) iw_125 (by decide) (by decide +kernel) rfl (Nat.le_of_ble_eq_true rfl) (Nat.le_of_ble_eq_true rfl) cdX10_init_90 (fun q11 => ?_)
  refine c_ws (ws' := ([(h0, .inr (10, [.ref q1, .ref q2, .ref q3, .int 0, .ref q4, .int 0, .int 0, .int 0, .int 0, .ref q5, .ref q6, .ref q7, .ref q8, .ref q9, .ref q10, .int 0, .int 0, .null, .null, .int 0, .int 0, .int 0, .null, .null, .null, .null])), ints G (q1) 626 (fun _ => 0), ints G (q2) 626 (fun _ => 0), ints G (q3) 626 (fun _ => 0), ints G (q4) 7 (fun _ => 0), ints G (q5) 124 (fun _ => 0), ints G (q6) 128 (fun _ => 0), ints G (q7) 64 (fun _ => 0), ints G (q8) 27 (fun _ => 0), ints G (q9) 4 (fun _ => 0), ints G (q10) 4 (fun _ => 0), ints G (q11) 626 (fun _ => 0)] : va_W)) rfl ?_
  refine c_putF (q0 := 0) (k := 17) (ty0 := tyX10) rfl rfl inG10 tyX10_ok nmX10 rfl iw_1003 rfl rfl rfl rfl rfl rfl cdX10_init_92 ?_
  refine c_ws (ws' := ([(h0, .inr (10, [.ref q1, .ref q2, .ref q3, .int 0, .ref q4, .int 0, .int 0, .int 0, .int 0, .ref q5, .ref q6, .ref q7, .ref q8, .ref q9, .ref q10, .int 0, .int 0, .ref q11, .null, .int 0, .int 0, .int 0, .null, .null, .null, .null])), ints G (q1) 626 (fun _ => 0), ints G (q2) 626 (fun _ => 0), ints G (q3) 626 (fun _ => 0), ints G (q4) 7 (fun _ => 0), ints G (q5) 124 (fun _ => 0), ints G (q6) 128 (fun _ => 0), ints G (q7) 64 (fun _ => 0), ints G (q8) 27 (fun _ => 0), ints G (q9) 4 (fun _ => 0), ints G (q10) 4 (fun _ => 0), ints G (q11) 626 (fun _ => 0)] : va_W)) rfl ?_
  refine c_aload_n 0 cdX10_init_95 rfl rfl ?_
  refine c_bipush (v := 30) cdX10_init_96 (by decide +kernel) ?_
  refine c_newI (N := 30) iw_125 (by decide) (by decide +kernel) rfl (Nat.le_of_ble_eq_true rfl) (Nat.le_of_ble_eq_true rfl) cdX10_init_98 (fun q12 => ?_)
  refine c_ws (ws' := ([(h0, .inr (10, [.ref q1, .ref q2, .ref q3, .int 0, .ref q4, .int 0, .int 0, .int 0, .int 0, .ref q5, .ref q6, .ref q7, .ref q8, .ref q9, .ref q10, .int 0, .int 0, .ref q11, .null, .int 0, .int 0, .int 0, .null, .null, .null, .null])), ints G (q1) 626 (fun _ => 0), ints G (q2) 626 (fun _ => 0), ints G (q3) 626 (fun _ => 0), ints G (q4) 7 (fun _ => 0), ints G (q5) 124 (fun _ => 0), ints G (q6) 128 (fun _ => 0), ints G (q7) 64 (fun _ => 0), ints G (q8) 27 (fun _ => 0), ints G (q9) 4 (fun _ => 0), ints G (q10) 4 (fun _ => 0), ints G (q11) 626 (fun _ => 0), ints G (q12) 30 (fun _ => 0)] : va_W)) rfl ?_
  refine c_putF (q0 := 0) (k := 18) (ty0 := tyX10) rfl rfl inG10 tyX10_ok nmX10 rfl iw_1004 rfl rfl rfl rfl rfl rfl cdX10_init_100 ?_
  refine c_ws (ws' := ([(h0, .inr (10, [.ref q1, .ref q2, .ref q3, .int 0, .ref q4, .int 0, .int 0, .int 0, .int 0, .ref q5, .ref q6, .ref q7, .ref q8, .ref q9, .ref q10, .int 0, .int 0, .ref q11, .ref q12, .int 0, .int 0, .int 0, .null, .null, .null, .null])), ints G (q1) 626 (fun _ => 0), ints G (q2) 626 (fun _ => 0), ints G (q3) 626 (fun _ => 0), ints G (q4) 7 (fun _ => 0), ints G (q5) 124 (fun _ => 0), ints G (q6) 128 (fun _ => 0), ints G (q7) 64 (fun _ => 0), ints G (q8) 27 (fun _ => 0), ints G (q9) 4 (fun _ => 0), ints G (q10) 4 (fun _ => 0), ints G (q11) 626 (fun _ => 0), ints G (q12) 30 (fun _ => 0)] : va_W)) rfl ?_
  refine c_aload_n 0 cdX10_init_103 rfl rfl ?_
  refine c_iconst (v := 4) cdX10_init_104 (by decide +kernel) ?_
  refine c_newI (N := 4) iw_125 (by decide) (by decide +kernel) rfl (Nat.le_of_ble_eq_true rfl) (Nat.le_of_ble_eq_true rfl) cdX10_init_105 (fun q13 => ?_)
  refine c_ws (ws' := ([(h0, .inr (10, [.ref q1, .ref q2, .ref q3, .int 0, .ref q4, .int 0, .int 0, .int 0, .int 0, .ref q5, .ref q6, .ref q7, .ref q8, .ref q9, .ref q10, .int 0, .int 0, .ref q11, .ref q12, .int 0, .int 0, .int 0, .null, .null, .null, .null])), ints G (q1) 626 (fun _ => 0), ints G (q2) 626 (fun _ => 0), ints G (q3) 626 (fun _ => 0), ints G (q4) 7 (fun _ => 0), ints G (q5) 124 (fun _ => 0), ints G (q6) 128 (fun _ => 0), ints G (q7) 64 (fun _ => 0), ints G (q8) 27 (fun _ => 0), ints G (q9) 4 (fun _ => 0), ints G (q10) 4 (fun _ => 0), ints G (q11) 626 (fun _ => 0), ints G (q12) 30 (fun _ => 0), ints G (q13) 4 (fun _ => 0)] : va_W)) rfl ?_
  refine c_putF (q0 := 0) (k := 22) (ty0 := tyX10) rfl rfl inG10 tyX10_ok nmX10 rfl iw_1008 rfl rfl rfl rfl rfl rfl cdX10_init_107 ?_
  refine c_ws (ws' := ([(h0, .inr (10, [.ref q1, .ref q2, .ref q3, .int 0, .ref q4, .int 0, .int 0, .int 0, .int 0, .ref q5, .ref q6, .ref q7, .ref q8, .ref q9, .ref q10, .int 0, .int 0, .ref q11, .ref q12, .int 0, .int 0, .int 0, .ref q13, .null, .null, .null])), ints G (q1) 626 (fun _ => 0), ints G (q2) 626 (fun _ => 0), ints G (q3) 626 (fun _ => 0), ints G (q4) 7 (fun _ => 0), ints G (q5) 124 (fun _ => 0), ints G (q6) 128 (fun _ => 0), ints G (q7) 64 (fun _ => 0), ints G (q8) 27 (fun _ => 0), ints G (q9) 4 (fun _ => 0), ints G (q10) 4 (fun _ => 0), ints G (q11) 626 (fun _ => 0), ints G (q12) 30 (fun _ => 0), ints G (q13) 4 (fun _ => 0)] : va_W)) rfl ?_
  refine c_aload_n 0 cdX10_init_110 rfl rfl ?_
  refine c_iconst (v := 4) cdX10_init_111 (by decide +kernel) ?_
  refine c_newI (N := 4) iw_125 (by decide) (by decide +kernel) rfl (Nat.le_of_ble_eq_true rfl) (Nat.le_of_ble_eq_true rfl) cdX10_init_112 (fun q14 => ?_)
  refine c_ws (ws' := ([(h0, .inr (10, [.ref q1, .ref q2, .ref q3, .int 0, .ref q4, .int 0, .int 0, .int 0, .int 0, .ref q5, .ref q6, .ref q7, .ref q8, .ref q9, .ref q10, .int 0, .int 0, .ref q11, .ref q12, .int 0, .int 0, .int 0, .ref q13, .null, .null, .null])), ints G (q1) 626 (fun _ => 0), ints G (q2) 626 (fun _ => 0), ints G (q3) 626 (fun _ => 0), ints G (q4) 7 (fun _ => 0), ints G (q5) 124 (fun _ => 0), ints G (q6) 128 (fun _ => 0), ints G (q7) 64 (fun _ => 0), ints G (q8) 27 (fun _ => 0), ints G (q9) 4 (fun _ => 0), ints G (q10) 4 (fun _ => 0), ints G (q11) 626 (fun _ => 0), ints G (q12) 30 (fun _ => 0), ints G (q13) 4 (fun _ => 0), ints G (q14) 4 (fun _ => 0)] : va_W)) rfl ?_
  refine c_putF (q0 := 0) (k := 23) (ty0 := tyX10) rfl rfl inG10 tyX10_ok nmX10 rfl iw_1009 rfl rfl rfl rfl rfl rfl cdX10_init_114 ?_
  refine c_ws (ws' := ([(h0, .inr (10, [.ref q1, .ref q2, .ref q3, .int 0, .ref q4, .int 0, .int 0, .int 0, .int 0, .ref q5, .ref q6, .ref q7, .ref q8, .ref q9, .ref q10, .int 0, .int 0, .ref q11, .ref q12, .int 0, .int 0, .int 0, .ref q13, .ref q14, .null, .null])), ints G (q1) 626 (fun _ => 0), ints G (q2) 626 (fun _ => 0), ints G (q3) 626 (fun _ => 0), ints G (q4) 7 (fun _ => 0), ints G (q5) 124 (fun _ => 0), ints G (q6) 128 (fun _ => 0), ints G (q7) 64 (fun _ => 0), ints G (q8) 27 (fun _ => 0), ints G (q9) 4 (fun _ => 0), ints G (q10) 4 (fun _ => 0), ints G (q11) 626 (fun _ => 0), ints G (q12) 30 (fun _ => 0), ints G (q13) 4 (fun _ => 0), ints G (q14) 4 (fun _ => 0)] : va_W)) rfl ?_
  refine c_aload_n 0 cdX10_init_117 rfl rfl ?_
  refine c_bipush (v := 96) cdX10_init_118 (by decide +kernel) ?_
  refine c_newI (N := 96) iw_125 (by decide) (by decide +kernel) rfl (Nat.le_of_ble_eq_true rfl) (Nat.le_of_ble_eq_true rfl) cdX10_init_120 (fun q15 => ?_)
  refine c_ws (ws' := ([(h0, .inr (10, [.ref q1, .ref q2, .ref q3, .int 0, .ref q4, .int 0, .int 0, .int 0, .int 0, .ref q5, .ref q6, .ref q7, .ref q8, .ref q9, .ref q10, .int 0, .int 0, .ref q11, .ref q12, .int 0, .int 0, .int 0, .ref q13, .ref q14, .null, .null])), ints G (q1) 626 (fun _ => 0), ints G (q2) 626 (fun _ => 0), ints G (q3) 626 (fun _ => 0), ints G (q4) 7 (fun _ => 0), ints G (q5) 124 (fun _ => 0), ints G (q6) 128 (fun _ => 0), ints G (q7) 64 (fun _ => 0), ints G (q8) 27 (fun _ => 0), ints G (q9) 4 (fun _ => 0), ints G (q10) 4 (fun _ => 0), ints G (q11) 626 (fun _ => 0), ints G (q12) 30 (fun _ => 0), ints G (q13) 4 (fun _ => 0), ints G (q14) 4 (fun _ => 0), ints G (q15) 96 (fun _ => 0)] : va_W)) rfl ?_
  refine c_putF (q0 := 0) (k := 24) (ty0 := tyX10) rfl rfl inG10 tyX10_ok nmX10 rfl iw_1010 rfl rfl rfl rfl rfl rfl cdX10_init_122 ?_
  refine c_ws (ws' := ([(h0, .inr (10, [.ref q1, .ref q2, .ref q3, .int 0, .ref q4, .int 0, .int 0, .int 0, .int 0, .ref q5, .ref q6, .ref q7, .ref q8, .ref q9, .ref q10, .int 0, .int 0, .ref q11, .ref q12, .int 0, .int 0, .int 0, .ref q13, .ref q14, .ref q15, .null])), ints G (q1) 626 (fun _ => 0), ints G (q2) 626 (fun _ => 0), ints G (q3) 626 (fun _ => 0), ints G (q4) 7 (fun _ => 0), ints G (q5) 124 (fun _ => 0), ints G (q6) 128 (fun _ => 0), ints G (q7) 64 (fun _ => 0), ints G (q8) 27 (fun _ => 0), ints G (q9) 4 (fun _ => 0), ints G (q10) 4 (fun _ => 0), ints G (q11) 626 (fun _ => 0), ints G (q12) 30 (fun _ => 0), ints G (q13) 4 (fun _ => 0), ints G (q14) 4 (fun _ => 0), ints G (q15) 96 (fun _ => 0)] : va_W)) rfl ?_
  refine c_aload_n 0 cdX10_init_125 rfl rfl ?_
  refine c_bipush (v := 24) cdX10_init_126 (by decide +kernel) ?_
  refine c_newI (N := 24) iw_125 (by decide) (by decide +kernel) rfl (Nat.le_of_ble_eq_true rfl) (Nat.le_of_ble_eq_true rfl) cdX10_init_128 (fun q16 => ?_)
  refine c_ws (ws' := ([(h0, .inr (10, [.ref q1, .ref q2, .ref q3, .int 0, .ref q4, .int 0, .int 0, .int 0, .int 0, .ref q5, .ref q6, .ref q7, .ref q8, .ref q9, .ref q10, .int 0, .int 0, .ref q11, .ref q12, .int 0, .int 0, .int 0, .ref q13, .ref q14, .ref q15, .null])), ints G (q1) 626 (fun _ => 0), ints G (q2) 626 (fun _ => 0), ints G (q3) 626 (fun _ => 0), ints G (q4) 7 (fun _ => 0), ints G (q5) 124 (fun _ => 0), ints G (q6) 128 (fun _ => 0), ints G (q7) 64 (fun _ => 0), ints G (q8) 27 (fun _ => 0), ints G (q9) 4 (fun _ => 0), ints G (q10) 4 (fun _ => 0), ints G (q11) 626 (fun _ => 0), ints G (q12) 30 (fun _ => 0), ints G (q13) 4 (fun _ => 0), ints G (q14) 4 (fun _ => 0), ints G (q15) 96 (fun _ => 0), ints G (q16) 24 (fun _ => 0)] : va_W)) rfl ?_
  refine c_putF (q0 := 0) (k := 25) (ty0 := tyX10) rfl rfl inG10 tyX10_ok nmX10 rfl iw_1011 rfl rfl rfl rfl rfl rfl cdX10_init_130 ?_
  refine c_ws (ws' := ([(h0, .inr (10, [.ref q1, .ref q2, .ref q3, .int 0, .ref q4, .int 0, .int 0, .int 0, .int 0, .ref q5, .ref q6, .ref q7, .ref q8, .ref q9, .ref q10, .int 0, .int 0, .ref q11, .ref q12, .int 0, .int 0, .int 0, .ref q13, .ref q14, .ref q15, .ref q16])), ints G (q1) 626 (fun _ => 0), ints G (q2) 626 (fun _ => 0), ints G (q3) 626 (fun _ => 0), ints G (q4) 7 (fun _ => 0), ints G (q5) 124 (fun _ => 0), ints G (q6) 128 (fun _ => 0), ints G (q7) 64 (fun _ => 0), ints G (q8) 27 (fun _ => 0), ints G (q9) 4 (fun _ => 0), ints G (q10) 4 (fun _ => 0), ints G (q11) 626 (fun _ => 0), ints G (q12) 30 (fun _ => 0), ints G (q13) 4 (fun _ => 0), ints G (q14) 4 (fun _ => 0), ints G (q15) 96 (fun _ => 0), ints G (q16) 24 (fun _ => 0)] : va_W)) rfl ?_
  refine c_aload_n 0 cdX10_init_133 rfl rfl ?_
  refine c_get (q0 := 0) (k := 0) rfl rfl rfl inG10 rfl iw_986 rfl cdX10_init_134 ?_
  refine c_bipush (v := 7) cdX10_init_137 (by decide +kernel) ?_
  refine c_iconst (v := 1) cdX10_init_139 (by decide +kernel) ?_
  refine c_iast (q0 := 1) rfl (by decide +kernel) cdX10_init_140 ?_
  rw [show (7 : Int32).toNatClampNeg = 7 from by decide +kernel]
  refine c_ws (ws' := ([(h0, .inr (10, [.ref q1, .ref q2, .ref q3, .int 0, .ref q4, .int 0, .int 0, .int 0, .int 0, .ref q5, .ref q6, .ref q7, .ref q8, .ref q9, .ref q10, .int 0, .int 0, .ref q11, .ref q12, .int 0, .int 0, .int 0, .ref q13, .ref q14, .ref q15, .ref q16])), ints G (q1) 626 (upd (fun _ => 0) 7 1), ints G (q2) 626 (fun _ => 0), ints G (q3) 626 (fun _ => 0), ints G (q4) 7 (fun _ => 0), ints G (q5) 124 (fun _ => 0), ints G (q6) 128 (fun _ => 0), ints G (q7) 64 (fun _ => 0), ints G (q8) 27 (fun _ => 0), ints G (q9) 4 (fun _ => 0), ints G (q10) 4 (fun _ => 0), ints G (q11) 626 (fun _ => 0), ints G (q12) 30 (fun _ => 0), ints G (q13) 4 (fun _ => 0), ints G (q14) 4 (fun _ => 0), ints G (q15) 96 (fun _ => 0), ints G (q16) 24 (fun _ => 0)] : va_W)) rfl ?_
  refine c_aload_n 0 cdX10_init_141 rfl rfl ?_
  refine c_get (q0 := 0) (k := 0) rfl rfl rfl inG10 rfl iw_986 rfl cdX10_init_142 ?_
  refine c_iconst (v := 2) cdX10_init_145 (by decide +kernel) ?_
  refine c_sipush (v := 1000) cdX10_init_146 (by decide +kernel) ?_
  refine c_iast (q0 := 1) rfl (by decide +kernel) cdX10_init_149 ?_
  rw [show (2 : Int32).toNatClampNeg = 2 from by decide +kernel]
  refine c_ws (ws' := ([(h0, .inr (10, [.ref q1, .ref q2, .ref q3, .int 0, .ref q4, .int 0, .int 0, .int 0, .int 0, .ref q5, .ref q6, .ref q7, .ref q8, .ref q9, .ref q10, .int 0, .int 0, .ref q11, .ref q12, .int 0, .int 0, .int 0, .ref q13, .ref q14, .ref q15, .ref q16])), ints G (q1) 626 (upd (upd (fun _ => 0) 7 1) 2 1000), ints G (q2) 626 (fun _ => 0), ints G (q3) 626 (fun _ => 0), ints G (q4) 7 (fun _ => 0), ints G (q5) 124 (fun _ => 0), ints G (q6) 128 (fun _ => 0), ints G (q7) 64 (fun _ => 0), ints G (q8) 27 (fun _ => 0), ints G (q9) 4 (fun _ => 0), ints G (q10) 4 (fun _ => 0), ints G (q11) 626 (fun _ => 0), ints G (q12) 30 (fun _ => 0), ints G (q13) 4 (fun _ => 0), ints G (q14) 4 (fun _ => 0), ints G (q15) 96 (fun _ => 0), ints G (q16) 24 (fun _ => 0)] : va_W)) rfl ?_
  refine c_iconst (v := 0) cdX10_init_150 (by decide +kernel) ?_
  refine c_istore_n (lv' := [(1, .int 0), (0, .ref h0)]) cdX10_init_151 rfl rfl rfl ?_
  refine c_ws (ws' := (fun fs => ([(h0, .inr (10, [.ref q1, .ref q2, .ref q3, .int 0, .ref q4, .int 0, .int 0, .int 0, .int 0, .ref q5, .ref q6, .ref q7, .ref q8, .ref q9, .ref q10, .int 0, .int 0, .ref q11, .ref q12, .int 0, .int 0, .int 0, .ref q13, .ref q14, .ref q15, .ref q16])), ints G (q1) 626 (fs), ints G (q2) 626 (fun _ => 0), ints G (q3) 626 (fun _ => 0), ints G (q4) 7 (fun _ => 0), ints G (q5) 124 (fun _ => 0), ints G (q6) 128 (fun _ => 0), ints G (q7) 64 (fun _ => 0), ints G (q8) 27 (fun _ => 0), ints G (q9) 4 (fun _ => 0), ints G (q10) 4 (fun _ => 0), ints G (q11) 626 (fun _ => 0), ints G (q12) 30 (fun _ => 0), ints G (q13) 4 (fun _ => 0), ints G (q14) 4 (fun _ => 0), ints G (q15) 96 (fun _ => 0), ints G (q16) 24 (fun _ => 0)] : va_W)) (upd (upd (fun _ => 0) 7 1) 2 1000)) rfl ?_
  refine c_loopI (P := fun i ws => SC (kQ G sz h0 10 dX10 (wMod G)) l G (rmc 1 16 3020) cX10_init RX10 2 sz (kA h0 10 dX10 sz) 152 ((1, .int (nI i)) :: [(0, .ref h0)]) [] ws 16 3020) (B := (fun fs => ([(h0, .inr (10, [.ref q1, .ref q2, .ref q3, .int 0, .ref q4, .int 0, .int 0, .int 0, .int 0, .ref q5, .ref q6, .ref q7, .ref q8, .ref q9, .ref q10, .int 0, .int 0, .ref q11, .ref q12, .int 0, .int 0, .int 0, .ref q13, .ref q14, .ref q15, .ref q16])), ints G (q1) 626 (fs), ints G (q2) 626 (fun _ => 0), ints G (q3) 626 (fun _ => 0), ints G (q4) 7 (fun _ => 0), ints G (q5) 124 (fun _ => 0), ints G (q6) 128 (fun _ => 0), ints G (q7) 64 (fun _ => 0), ints G (q8) 27 (fun _ => 0), ints G (q9) 4 (fun _ => 0), ints G (q10) 4 (fun _ => 0), ints G (q11) 626 (fun _ => 0), ints G (q12) 30 (fun _ => 0), ints G (q13) 4 (fun _ => 0), ints G (q14) 4 (fun _ => 0), ints G (q15) 96 (fun _ => 0), ints G (q16) 24 (fun _ => 0)] : va_W))) (n := 4) (b0 := 8) (v := 5) (f0 := upd (upd (fun _ => 0) 7 1) 2 1000) (fun i fs hi kk => ?_) (fun fs hfs => ?_)
  · refine c_iload_n 0 cdX10_init_152 rfl rfl ?_
    refine c_iconst (v := 4) cdX10_init_153 (by decide +kernel) ?_
    refine c_icmpge (tgt := 173) cdX10_init_154 (by decide) (fun h => absurd h (show ¬ (4 : Int32) ≤ nI i from nI_ge (b := 4) (by omega) (by omega))) (fun _ => ?_)
    refine c_aload_n 1 cdX10_init_157 rfl rfl ?_
    refine c_get (q0 := 0) (k := 0) rfl rfl rfl inG10 rfl iw_986 rfl cdX10_init_158 ?_
    refine c_bipush (v := 8) cdX10_init_161 (by decide +kernel) ?_
    refine c_iload_n 0 cdX10_init_163 rfl rfl ?_
    refine c_iadd cdX10_init_164 ?_
    rw [show (8 : Int32) + nI i = nI (8 + i) from by rw [← nI_add]; rfl]
    refine c_iconst (v := 5) cdX10_init_165 (by decide +kernel) ?_
    refine c_iast (q0 := 1) rfl (inb_nI (by omega) (by omega)) cdX10_init_166 ?_
    rw [show (nI (8 + i)).toNatClampNeg = 8 + i from (ix_nI (by omega)).trans (by omega)]
    refine c_ws (ws' := (fun fs => ([(h0, .inr (10, [.ref q1, .ref q2, .ref q3, .int 0, .ref q4, .int 0, .int 0, .int 0, .int 0, .ref q5, .ref q6, .ref q7, .ref q8, .ref q9, .ref q10, .int 0, .int 0, .ref q11, .ref q12, .int 0, .int 0, .int 0, .ref q13, .ref q14, .ref q15, .ref q16])), ints G (q1) 626 (fs), ints G (q2) 626 (fun _ => 0), ints G (q3) 626 (fun _ => 0), ints G (q4) 7 (fun _ => 0), ints G (q5) 124 (fun _ => 0), ints G (q6) 128 (fun _ => 0), ints G (q7) 64 (fun _ => 0), ints G (q8) 27 (fun _ => 0), ints G (q9) 4 (fun _ => 0), ints G (q10) 4 (fun _ => 0), ints G (q11) 626 (fun _ => 0), ints G (q12) 30 (fun _ => 0), ints G (q13) 4 (fun _ => 0), ints G (q14) 4 (fun _ => 0), ints G (q15) 96 (fun _ => 0), ints G (q16) 24 (fun _ => 0)] : va_W)) (upd fs (8 + i) 5)) rfl ?_
    refine c_iinc (k := 0) (v := 1) (lv' := (1, .int (nI i + 1)) :: [(0, .ref h0)]) cdX10_init_167 rfl (by decide +kernel) rfl rfl ?_
    refine c_goto (tgt := 152) cdX10_init_170 (by decide) ?_
    rw [nI_1 i]
    exact kk
  refine c_ws (ws' := ([(h0, .inr (10, [.ref q1, .ref q2, .ref q3, .int 0, .ref q4, .int 0, .int 0, .int 0, .int 0, .ref q5, .ref q6, .ref q7, .ref q8, .ref q9, .ref q10, .int 0, .int 0, .ref q11, .ref q12, .int 0, .int 0, .int 0, .ref q13, .ref q14, .ref q15, .ref q16])), ints G (q1) 626 (fs), ints G (q2) 626 (fun _ => 0), ints G (q3) 626 (fun _ => 0), ints G (q4) 7 (fun _ => 0), ints G (q5) 124 (fun _ => 0), ints G (q6) 128 (fun _ => 0), ints G (q7) 64 (fun _ => 0), ints G (q8) 27 (fun _ => 0), ints G (q9) 4 (fun _ => 0), ints G (q10) 4 (fun _ => 0), ints G (q11) 626 (fun _ => 0), ints G (q12) 30 (fun _ => 0), ints G (q13) 4 (fun _ => 0), ints G (q14) 4 (fun _ => 0), ints G (q15) 96 (fun _ => 0), ints G (q16) 24 (fun _ => 0)] : va_W)) rfl ?_
  refine c_iload_n 0 cdX10_init_152 rfl rfl ?_
  refine c_iconst (v := 4) cdX10_init_153 (by decide +kernel) ?_
  refine c_icmpge (tgt := 173) cdX10_init_154 (by decide) (fun _ => ?_) (fun h => absurd (by decide) h)
  have hf : ∀ j, j < 626 → fs j = MD0 1 j := fun j _ => by
    rw [hfs j]
    show _ = (if 8 ≤ j ∧ j < 12 then 5 else if j = 2 then 1000 else if j = 7 then 1 else 0)
    by_cases h1 : 8 ≤ j ∧ j < 12
    · rw [if_pos (by omega), if_pos h1]
    · rw [if_neg (by omega), if_neg h1]
      by_cases h2 : j = 2
      · rw [if_pos h2, h2, upd_s]
      · rw [if_neg h2, upd_n h2]
        by_cases h7 : j = 7
        · rw [if_pos h7, h7, upd_s]
        · rw [if_neg h7, upd_n h7]
  refine c_ret (wK := wMod G) (fun k => ([h0, q1, q2, q3, q4, q5, q6, q7, q8, q9, q10, q11, q12, q13, q14, q15, q16] : List Nat).getD k 0) rfl (fun H h => ?_) (fun h => ?_) (Nat.le_of_ble_eq_true rfl) (Nat.le_of_ble_eq_true rfl) cdX10_init_173
  · have h := P_ints h (k := 1) (g := MD0 1) rfl hf
    show va_P G.1 cls (WS layM (gA G (fun k => ([h0, q1, q2, q3, q4, q5, q6, q7, q8, q9, q10, q11, q12, q13, q14, q15, q16] : List Nat).getD k 0)) MD0) H
    rw [WS_r]
    exact h
  · refine D_addr ?_ h
    show _ = (WS layM (gA G (fun k => ([h0, q1, q2, q3, q4, q5, q6, q7, q8, q9, q10, q11, q12, q13, q14, q15, q16] : List Nat).getD k 0)) MD0).map Prod.fst
    rw [WS_addr]
    rfl
