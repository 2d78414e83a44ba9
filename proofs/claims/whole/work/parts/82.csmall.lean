/-! MAKING: the small constructors. -/
def wRow (G : Gx) (n : Nat) (ad : Nat → Nat) : va_W := [(ad 0, .inr (5, [.ref (ad 1), .int 0])), ints G (ad 1) n (fun _ => 0)]
def wLet (G : Gx) (ad : Nat → Nat) : va_W := [(ad 0, .inr (3, [.int 0, .int 0, .int 0, .int 0, .int 0, .int (-1), .int 0]))]
def wLaw (G : Gx) (ad : Nat → Nat) : va_W := [(ad 0, .inr (1, [.ref (ad 1), .ref (ad 3), .ref (ad 4)])), (ad 1, .inr (5, [.ref (ad 2), .int 0])), ints G (ad 2) 60 (fun _ => 0), ints G (ad 3) 4 (fun _ => 0), ints G (ad 4) 60 (fun _ => 0)]
def wPlate (G : Gx) (ad : Nat → Nat) : va_W := [(ad 0, .inr (4, [.ref (ad 1), .int 0])), (ad 1, .inr (5, [.ref (ad 2), .int 0])), ints G (ad 2) 24 (fun _ => 0)]
def wVoices (G : Gx) (ad : Nat → Nat) : va_W := [(ad 0, .inr (8, [.ref (ad 1), .int 0, .int 0, .int 0, .int 0])), (ad 1, .inr (5, [.ref (ad 2), .int 0])), ints G (ad 2) 30 (fun _ => 0)]
def wReader (G : Gx) (tp : Nat) (ad : Nat → Nat) : va_W := [(ad 0, .inr (2, [.ref tp, .ref (ad 1), .int 0])), (ad 1, .inr (5, [.ref (ad 2), .int 0])), ints G (ad 2) 60 (fun _ => 0)]
def wRows (G : Gx) (sp ah : Nat) (ad : Nat → Nat) : va_W := [(ad 0, .inr (6, [.ref sp, .ref ah, .ref (ad 1), .ref (ad 3), .ref (ad 5), .int 0])), (ad 1, .inr (5, [.ref (ad 2), .int 0])), ints G (ad 2) 4 (fun _ => 0), (ad 3, .inr (5, [.ref (ad 4), .int 0])), ints G (ad 4) 16 (fun _ => 0), (ad 5, .inr (5, [.ref (ad 6), .int 0])), ints G (ad 6) 4 (fun _ => 0)]
theorem ct_X5 (l : Launch) (G : Gx) (h0 : Nat) (v : Int32) (N : Nat) (hv : ¬ v < 0) (hN : v.toNatClampNeg = N) (h1k : Nat.ble N 1000 = true) : CT l G 1 yX5_init cX5_init 2 [.int v] h0 5 dX5 (wRow G N) 1 N := by
  refine CT.of (lv := [(0, .ref h0), (1, .int v)]) rfl (by decide) rfl rfl rfl (fun sz => ?_)
  refine c_ws (ws' := ([(h0, .inr (5, [.null, .int 0]))] : va_W)) rfl ?_
  refine c_aload_n 0 cdX5_init_0 rfl rfl ?_
  refine c_obj iw_107 iw_84 iw_85 rfl cdX5_init_1 ?_
  refine c_aload_n 0 cdX5_init_4 rfl rfl ?_
  refine c_iload_n 1 cdX5_init_5 rfl rfl ?_
  refine c_iconst (v := 0) cdX5_init_6 (by decide +kernel) ?_
  refine c_max rfl rfl (Nat.zero_le _) (Nat.zero_le _) iw_108 iw_109 iw_64 iw_110 cdX5_init_7 ?_
  rw [if_neg hv]
  refine c_newI (N := N) iw_125 hv hN h1k (Nat.le_of_ble_eq_true rfl) (by show 0 + N ≤ N; omega) cdX5_init_10 (fun q1 => ?_)
  refine c_ws (ws' := ([(h0, .inr (5, [.null, .int 0])), ints G (q1) N (fun _ => 0)] : va_W)) rfl ?_
  refine c_putF (q0 := 0) (k := 0) (ty0 := tyX5) rfl rfl inG5 tyX5_ok nmX5 rfl iw_111 rfl rfl rfl rfl rfl rfl cdX5_init_12 ?_
  refine c_ws (ws' := ([(h0, .inr (5, [.ref q1, .int 0])), ints G (q1) N (fun _ => 0)] : va_W)) rfl ?_
  refine c_ret (wK := wRow G N) (fun j => ([h0, q1] : List Nat).getD j 0) rfl (fun H h => h.sub [0, 1] rfl) (fun h => h.sub [0, 1] (by decide) rfl) (Nat.le_of_ble_eq_true rfl) (by omega) cdX5_init_15
theorem ct_X3 (l : Launch) (G : Gx) (h0 : Nat) : CT l G 1 yX3_init cX3_init 1 [] h0 3 dX3 (wLet G) 0 0 := by
  refine CT.of (lv := [(0, .ref h0)]) rfl (by decide) rfl rfl rfl (fun sz => ?_)
  refine c_ws (ws' := ([(h0, .inr (3, [.int 0, .int 0, .int 0, .int 0, .int 0, .int 0, .int 0]))] : va_W)) rfl ?_
  refine c_aload_n 0 cdX3_init_0 rfl rfl ?_
  refine c_obj iw_143 iw_84 iw_85 rfl cdX3_init_1 ?_
  refine c_aload_n 0 cdX3_init_4 rfl rfl ?_
  refine c_iconst (v := -1) cdX3_init_5 (by decide +kernel) ?_
  refine c_put (q0 := 0) (k := 5) (ty0 := tyX3) rfl rfl inG3 tyX3_ok nmX3 rfl iw_158 rfl rfl rfl rfl rfl cdX3_init_6 ?_
  refine c_ws (ws' := ([(h0, .inr (3, [.int 0, .int 0, .int 0, .int 0, .int 0, .int (-1), .int 0]))] : va_W)) rfl ?_
  refine c_ret (wK := wLet G) (fun j => ([h0] : List Nat).getD j 0) rfl (fun H h => h.sub [0] rfl) (fun h => h.sub [0] (by decide) rfl) (Nat.le_of_ble_eq_true rfl) (Nat.le_of_ble_eq_true rfl) cdX3_init_9
theorem ct_X1 (l : Launch) (G : Gx) (h0 : Nat) : CT l G 2 yX1_init cX1_init 1 [] h0 1 dX1 (wLaw G) 4 126 := by
  refine CT.of (lv := [(0, .ref h0)]) rfl (by decide) rfl rfl rfl (fun sz => ?_)
  refine c_ws (ws' := ([(h0, .inr (1, [.null, .null, .null]))] : va_W)) rfl ?_
  refine c_aload_n 0 cdX1_init_0 rfl rfl ?_
  refine c_obj iw_101 iw_84 iw_85 rfl cdX1_init_1 ?_
  refine c_aload_n 0 cdX1_init_4 rfl rfl ?_
  refine c_new (ci := 5) (fs := dX5) rfl inG5 tyX5_ok iw_102 iw_103 iw_63 dX5_ok (Nat.le_of_ble_eq_true rfl) (Nat.le_of_ble_eq_true rfl) cdX1_init_5 (fun q1 => ?_)
  refine c_dup cdX1_init_8 rfl ?_
  refine c_bipush (v := 60) cdX1_init_9 (by decide +kernel) ?_
  refine c_init (ct_X5 l G q1 60 60 (by decide) (by decide +kernel) rfl) oki_X5_init iw_104 rfl rfl rfl rfl (Nat.le_of_ble_eq_true rfl) (Nat.le_of_ble_eq_true rfl) cdX1_init_11 (fun a1 ea1 => ?_)
  subst ea1
  refine c_ws (ws' := ([(h0, .inr (1, [.null, .null, .null])), (a1 0, .inr (5, [.ref (a1 1), .int 0])), ints G (a1 1) 60 (fun _ => 0)] : va_W)) rfl ?_
  refine c_putF (q0 := 0) (k := 0) (ty0 := tyX1) rfl rfl inG1 tyX1_ok nmX1 rfl iw_126 rfl rfl rfl rfl rfl rfl cdX1_init_14 ?_
  refine c_ws (ws' := ([(h0, .inr (1, [.ref (a1 0), .null, .null])), (a1 0, .inr (5, [.ref (a1 1), .int 0])), ints G (a1 1) 60 (fun _ => 0)] : va_W)) rfl ?_
  refine c_aload_n 0 cdX1_init_17 rfl rfl ?_
  refine c_iconst (v := 4) cdX1_init_18 (by decide +kernel) ?_
  refine c_newI (N := 4) iw_125 (by decide) (by decide +kernel) rfl (Nat.le_of_ble_eq_true rfl) (Nat.le_of_ble_eq_true rfl) cdX1_init_19 (fun q2 => ?_)
  refine c_ws (ws' := ([(h0, .inr (1, [.ref (a1 0), .null, .null])), (a1 0, .inr (5, [.ref (a1 1), .int 0])), ints G (a1 1) 60 (fun _ => 0), ints G (q2) 4 (fun _ => 0)] : va_W)) rfl ?_
  refine c_putF (q0 := 0) (k := 1) (ty0 := tyX1) rfl rfl inG1 tyX1_ok nmX1 rfl iw_129 rfl rfl rfl rfl rfl rfl cdX1_init_21 ?_
  refine c_ws (ws' := ([(h0, .inr (1, [.ref (a1 0), .ref q2, .null])), (a1 0, .inr (5, [.ref (a1 1), .int 0])), ints G (a1 1) 60 (fun _ => 0), ints G (q2) 4 (fun _ => 0)] : va_W)) rfl ?_
  refine c_aload_n 0 cdX1_init_24 rfl rfl ?_
  refine c_bipush (v := 60) cdX1_init_25 (by decide +kernel) ?_
  refine c_newI (N := 60) iw_125 (by decide) (by decide +kernel) rfl (Nat.le_of_ble_eq_true rfl) (Nat.le_of_ble_eq_true rfl) cdX1_init_27 (fun q3 => ?_)
  refine c_ws (ws' := ([(h0, .inr (1, [.ref (a1 0), .ref q2, .null])), (a1 0, .inr (5, [.ref (a1 1), .int 0])), ints G (a1 1) 60 (fun _ => 0), ints G (q2) 4 (fun _ => 0), ints G (q3) 60 (fun _ => 0)] : va_W)) rfl ?_
  refine c_putF (q0 := 0) (k := 2) (ty0 := tyX1) rfl rfl inG1 tyX1_ok nmX1 rfl iw_130 rfl rfl rfl rfl rfl rfl cdX1_init_29 ?_
  refine c_ws (ws' := ([(h0, .inr (1, [.ref (a1 0), .ref q2, .ref q3])), (a1 0, .inr (5, [.ref (a1 1), .int 0])), ints G (a1 1) 60 (fun _ => 0), ints G (q2) 4 (fun _ => 0), ints G (q3) 60 (fun _ => 0)] : va_W)) rfl ?_
  refine c_ret (wK := wLaw G) (fun j => ([h0, a1 0, a1 1, q2, q3] : List Nat).getD j 0) rfl (fun H h => h.sub [0, 1, 2, 3, 4] rfl) (fun h => h.sub [0, 1, 2, 3, 4] (by decide) rfl) (Nat.le_of_ble_eq_true rfl) (Nat.le_of_ble_eq_true rfl) cdX1_init_32
theorem ct_X4 (l : Launch) (G : Gx) (h0 : Nat) : CT l G 2 yX4_init cX4_init 1 [] h0 4 dX4 (wPlate G) 2 26 := by
  refine CT.of (lv := [(0, .ref h0)]) rfl (by decide) rfl rfl rfl (fun sz => ?_)
  refine c_ws (ws' := ([(h0, .inr (4, [.null, .int 0]))] : va_W)) rfl ?_
  refine c_aload_n 0 cdX4_init_0 rfl rfl ?_
  refine c_obj iw_343 iw_84 iw_85 rfl cdX4_init_1 ?_
  refine c_aload_n 0 cdX4_init_4 rfl rfl ?_
  refine c_new (ci := 5) (fs := dX5) rfl inG5 tyX5_ok iw_344 iw_103 iw_63 dX5_ok (Nat.le_of_ble_eq_true rfl) (Nat.le_of_ble_eq_true rfl) cdX4_init_5 (fun q1 => ?_)
  refine c_dup cdX4_init_8 rfl ?_
  refine c_bipush (v := 24) cdX4_init_9 (by decide +kernel) ?_
  refine c_init (ct_X5 l G q1 24 24 (by decide) (by decide +kernel) rfl) oki_X5_init iw_345 rfl rfl rfl rfl (Nat.le_of_ble_eq_true rfl) (Nat.le_of_ble_eq_true rfl) cdX4_init_11 (fun a1 ea1 => ?_)
  subst ea1
  refine c_ws (ws' := ([(h0, .inr (4, [.null, .int 0])), (a1 0, .inr (5, [.ref (a1 1), .int 0])), ints G (a1 1) 24 (fun _ => 0)] : va_W)) rfl ?_
  refine c_putF (q0 := 0) (k := 0) (ty0 := tyX4) rfl rfl inG4 tyX4_ok nmX4 rfl iw_346 rfl rfl rfl rfl rfl rfl cdX4_init_14 ?_
  refine c_ws (ws' := ([(h0, .inr (4, [.ref (a1 0), .int 0])), (a1 0, .inr (5, [.ref (a1 1), .int 0])), ints G (a1 1) 24 (fun _ => 0)] : va_W)) rfl ?_
  refine c_ret (wK := wPlate G) (fun j => ([h0, a1 0, a1 1] : List Nat).getD j 0) rfl (fun H h => h.sub [0, 1, 2] rfl) (fun h => h.sub [0, 1, 2] (by decide) rfl) (Nat.le_of_ble_eq_true rfl) (Nat.le_of_ble_eq_true rfl) cdX4_init_17
theorem ct_X8 (l : Launch) (G : Gx) (h0 : Nat) : CT l G 2 yX8_init cX8_init 1 [] h0 8 dX8 (wVoices G) 2 32 := by
  refine CT.of (lv := [(0, .ref h0)]) rfl (by decide) rfl rfl rfl (fun sz => ?_)
  refine c_ws (ws' := ([(h0, .inr (8, [.null, .int 0, .int 0, .int 0, .int 0]))] : va_W)) rfl ?_
  refine c_aload_n 0 cdX8_init_0 rfl rfl ?_
  refine c_obj iw_316 iw_84 iw_85 rfl cdX8_init_1 ?_
  refine c_aload_n 0 cdX8_init_4 rfl rfl ?_
  refine c_new (ci := 5) (fs := dX5) rfl inG5 tyX5_ok iw_317 iw_103 iw_63 dX5_ok (Nat.le_of_ble_eq_true rfl) (Nat.le_of_ble_eq_true rfl) cdX8_init_5 (fun q1 => ?_)
  refine c_dup cdX8_init_8 rfl ?_
  refine c_bipush (v := 30) cdX8_init_9 (by decide +kernel) ?_
  refine c_init (ct_X5 l G q1 30 30 (by decide) (by decide +kernel) rfl) oki_X5_init iw_318 rfl rfl rfl rfl (Nat.le_of_ble_eq_true rfl) (Nat.le_of_ble_eq_true rfl) cdX8_init_11 (fun a1 ea1 => ?_)
  subst ea1
  refine c_ws (ws' := ([(h0, .inr (8, [.null, .int 0, .int 0, .int 0, .int 0])), (a1 0, .inr (5, [.ref (a1 1), .int 0])), ints G (a1 1) 30 (fun _ => 0)] : va_W)) rfl ?_
  refine c_putF (q0 := 0) (k := 0) (ty0 := tyX8) rfl rfl inG8 tyX8_ok nmX8 rfl iw_319 rfl rfl rfl rfl rfl rfl cdX8_init_14 ?_
  refine c_ws (ws' := ([(h0, .inr (8, [.ref (a1 0), .int 0, .int 0, .int 0, .int 0])), (a1 0, .inr (5, [.ref (a1 1), .int 0])), ints G (a1 1) 30 (fun _ => 0)] : va_W)) rfl ?_
  refine c_ret (wK := wVoices G) (fun j => ([h0, a1 0, a1 1] : List Nat).getD j 0) rfl (fun H h => h.sub [0, 1, 2] rfl) (fun h => h.sub [0, 1, 2] (by decide) rfl) (Nat.le_of_ble_eq_true rfl) (Nat.le_of_ble_eq_true rfl) cdX8_init_17
theorem ct_X2 (l : Launch) (G : Gx) (h0 : Nat) (tp : Nat) : CT l G 2 yX2_init cX2_init 2 [.ref tp] h0 2 dX2 (wReader G tp) 2 62 := by
  refine CT.of (lv := [(0, .ref h0), (1, .ref tp)]) rfl (by decide) rfl rfl rfl (fun sz => ?_)
  refine c_ws (ws' := ([(h0, .inr (2, [.null, .null, .int 0]))] : va_W)) rfl ?_
  refine c_aload_n 0 cdX2_init_0 rfl rfl ?_
  refine c_obj iw_297 iw_84 iw_85 rfl cdX2_init_1 ?_
  refine c_aload_n 0 cdX2_init_4 rfl rfl ?_
  refine c_new (ci := 5) (fs := dX5) rfl inG5 tyX5_ok iw_298 iw_103 iw_63 dX5_ok (Nat.le_of_ble_eq_true rfl) (Nat.le_of_ble_eq_true rfl) cdX2_init_5 (fun q1 => ?_)
  refine c_dup cdX2_init_8 rfl ?_
  refine c_bipush (v := 60) cdX2_init_9 (by decide +kernel) ?_
  refine c_init (ct_X5 l G q1 60 60 (by decide) (by decide +kernel) rfl) oki_X5_init iw_299 rfl rfl rfl rfl (Nat.le_of_ble_eq_true rfl) (Nat.le_of_ble_eq_true rfl) cdX2_init_11 (fun a1 ea1 => ?_)
  subst ea1
  refine c_ws (ws' := ([(h0, .inr (2, [.null, .null, .int 0])), (a1 0, .inr (5, [.ref (a1 1), .int 0])), ints G (a1 1) 60 (fun _ => 0)] : va_W)) rfl ?_
  refine c_putF (q0 := 0) (k := 1) (ty0 := tyX2) rfl rfl inG2 tyX2_ok nmX2 rfl iw_301 rfl rfl rfl rfl rfl rfl cdX2_init_14 ?_
  refine c_ws (ws' := ([(h0, .inr (2, [.null, .ref (a1 0), .int 0])), (a1 0, .inr (5, [.ref (a1 1), .int 0])), ints G (a1 1) 60 (fun _ => 0)] : va_W)) rfl ?_
  refine c_aload_n 0 cdX2_init_17 rfl rfl ?_
  refine c_aload_n 1 cdX2_init_18 rfl rfl ?_
  refine c_putF (q0 := 0) (k := 0) (ty0 := tyX2) rfl rfl inG2 tyX2_ok nmX2 rfl iw_300 rfl rfl rfl rfl rfl rfl cdX2_init_19 ?_
  refine c_ws (ws' := ([(h0, .inr (2, [.ref tp, .ref (a1 0), .int 0])), (a1 0, .inr (5, [.ref (a1 1), .int 0])), ints G (a1 1) 60 (fun _ => 0)] : va_W)) rfl ?_
  refine c_ret (wK := wReader G tp) (fun j => ([h0, a1 0, a1 1] : List Nat).getD j 0) rfl (fun H h => h.sub [0, 1, 2] rfl) (fun h => h.sub [0, 1, 2] (by decide) rfl) (Nat.le_of_ble_eq_true rfl) (Nat.le_of_ble_eq_true rfl) cdX2_init_22
theorem ct_X6 (l : Launch) (G : Gx) (h0 : Nat) (sp ah : Nat) : CT l G 2 yX6_init cX6_init 3 [.ref sp, .ref ah] h0 6 dX6 (wRows G sp ah) 6 30 := by
  refine CT.of (lv := [(0, .ref h0), (1, .ref sp), (2, .ref ah)]) rfl (by decide) rfl rfl rfl (fun sz => ?_)
  refine c_ws (ws' := ([(h0, .inr (6, [.null, .null, .null, .null, .null, .int 0]))] : va_W)) rfl ?_
  refine c_aload_n 0 cdX6_init_0 rfl rfl ?_
  refine c_obj iw_268 iw_84 iw_85 rfl cdX6_init_1 ?_
  refine c_aload_n 0 cdX6_init_4 rfl rfl ?_
  refine c_new (ci := 5) (fs := dX5) rfl inG5 tyX5_ok iw_269 iw_103 iw_63 dX5_ok (Nat.le_of_ble_eq_true rfl) (Nat.le_of_ble_eq_true rfl) cdX6_init_5 (fun q1 => ?_)
  refine c_dup cdX6_init_8 rfl ?_
  refine c_iconst (v := 4) cdX6_init_9 (by decide +kernel) ?_
  refine c_init (ct_X5 l G q1 4 4 (by decide) (by decide +kernel) rfl) oki_X5_init iw_270 rfl rfl rfl rfl (Nat.le_of_ble_eq_true rfl) (Nat.le_of_ble_eq_true rfl) cdX6_init_10 (fun a1 ea1 => ?_)
  subst ea1
  refine c_ws (ws' := ([(h0, .inr (6, [.null, .null, .null, .null, .null, .int 0])), (a1 0, .inr (5, [.ref (a1 1), .int 0])), ints G (a1 1) 4 (fun _ => 0)] : va_W)) rfl ?_
  refine c_putF (q0 := 0) (k := 2) (ty0 := tyX6) rfl rfl inG6 tyX6_ok nmX6 rfl iw_273 rfl rfl rfl rfl rfl rfl cdX6_init_13 ?_
  refine c_ws (ws' := ([(h0, .inr (6, [.null, .null, .ref (a1 0), .null, .null, .int 0])), (a1 0, .inr (5, [.ref (a1 1), .int 0])), ints G (a1 1) 4 (fun _ => 0)] : va_W)) rfl ?_
  refine c_aload_n 0 cdX6_init_16 rfl rfl ?_
  refine c_new (ci := 5) (fs := dX5) rfl inG5 tyX5_ok iw_269 iw_103 iw_63 dX5_ok (Nat.le_of_ble_eq_true rfl) (Nat.le_of_ble_eq_true rfl) cdX6_init_17 (fun q2 => ?_)
  refine c_dup cdX6_init_20 rfl ?_
  refine c_bipush (v := 16) cdX6_init_21 (by decide +kernel) ?_
  refine c_init (ct_X5 l G q2 16 16 (by decide) (by decide +kernel) rfl) oki_X5_init iw_270 rfl rfl rfl rfl (Nat.le_of_ble_eq_true rfl) (Nat.le_of_ble_eq_true rfl) cdX6_init_23 (fun a2 ea2 => ?_)
  subst ea2
  refine c_ws (ws' := ([(h0, .inr (6, [.null, .null, .ref (a1 0), .null, .null, .int 0])), (a1 0, .inr (5, [.ref (a1 1), .int 0])), ints G (a1 1) 4 (fun _ => 0), (a2 0, .inr (5, [.ref (a2 1), .int 0])), ints G (a2 1) 16 (fun _ => 0)] : va_W)) rfl ?_
  refine c_putF (q0 := 0) (k := 3) (ty0 := tyX6) rfl rfl inG6 tyX6_ok nmX6 rfl iw_274 rfl rfl rfl rfl rfl rfl cdX6_init_26 ?_
  refine c_ws (ws' := ([(h0, .inr (6, [.null, .null, .ref (a1 0), .ref (a2 0), .null, .int 0])), (a1 0, .inr (5, [.ref (a1 1), .int 0])), ints G (a1 1) 4 (fun _ => 0), (a2 0, .inr (5, [.ref (a2 1), .int 0])), ints G (a2 1) 16 (fun _ => 0)] : va_W)) rfl ?_
  refine c_aload_n 0 cdX6_init_29 rfl rfl ?_
  refine c_new (ci := 5) (fs := dX5) rfl inG5 tyX5_ok iw_269 iw_103 iw_63 dX5_ok (Nat.le_of_ble_eq_true rfl) (Nat.le_of_ble_eq_true rfl) cdX6_init_30 (fun q3 => ?_)
  refine c_dup cdX6_init_33 rfl ?_
  refine c_iconst (v := 4) cdX6_init_34 (by decide +kernel) ?_
  refine c_init (ct_X5 l G q3 4 4 (by decide) (by decide +kernel) rfl) oki_X5_init iw_270 rfl rfl rfl rfl (Nat.le_of_ble_eq_true rfl) (Nat.le_of_ble_eq_true rfl) cdX6_init_35 (fun a3 ea3 => ?_)
  subst ea3
  refine c_ws (ws' := ([(h0, .inr (6, [.null, .null, .ref (a1 0), .ref (a2 0), .null, .int 0])), (a1 0, .inr (5, [.ref (a1 1), .int 0])), ints G (a1 1) 4 (fun _ => 0), (a2 0, .inr (5, [.ref (a2 1), .int 0])), ints G (a2 1) 16 (fun _ => 0), (a3 0, .inr (5, [.ref (a3 1), .int 0])), ints G (a3 1) 4 (fun _ => 0)] : va_W)) rfl ?_
  refine c_putF (q0 := 0) (k := 4) (ty0 := tyX6) rfl rfl inG6 tyX6_ok nmX6 rfl iw_275 rfl rfl rfl rfl rfl rfl cdX6_init_38 ?_
  refine c_ws (ws' := ([(h0, .inr (6, [.null, .null, .ref (a1 0), .ref (a2 0), .ref (a3 0), .int 0])), (a1 0, .inr (5, [.ref (a1 1), .int 0])), ints G (a1 1) 4 (fun _ => 0), (a2 0, .inr (5, [.ref (a2 1), .int 0])), ints G (a2 1) 16 (fun _ => 0), (a3 0, .inr (5, [.ref (a3 1), .int 0])), ints G (a3 1) 4 (fun _ => 0)] : va_W)) rfl ?_
  refine c_aload_n 0 cdX6_init_41 rfl rfl ?_
  refine c_aload_n 1 cdX6_init_42 rfl rfl ?_
  refine c_putF (q0 := 0) (k := 0) (ty0 := tyX6) rfl rfl inG6 tyX6_ok nmX6 rfl iw_271 rfl rfl rfl rfl rfl rfl cdX6_init_43 ?_
  refine c_ws (ws' := ([(h0, .inr (6, [.ref sp, .null, .ref (a1 0), .ref (a2 0), .ref (a3 0), .int 0])), (a1 0, .inr (5, [.ref (a1 1), .int 0])), ints G (a1 1) 4 (fun _ => 0), (a2 0, .inr (5, [.ref (a2 1), .int 0])), ints G (a2 1) 16 (fun _ => 0), (a3 0, .inr (5, [.ref (a3 1), .int 0])), ints G (a3 1) 4 (fun _ => 0)] : va_W)) rfl ?_
  refine c_aload_n 0 cdX6_init_46 rfl rfl ?_
  refine c_aload_n 2 cdX6_init_47 rfl rfl ?_
  refine c_putF (q0 := 0) (k := 1) (ty0 := tyX6) rfl rfl inG6 tyX6_ok nmX6 rfl iw_272 rfl rfl rfl rfl rfl rfl cdX6_init_48 ?_
  refine c_ws (ws' := ([(h0, .inr (6, [.ref sp, .ref ah, .ref (a1 0), .ref (a2 0), .ref (a3 0), .int 0])), (a1 0, .inr (5, [.ref (a1 1), .int 0])), ints G (a1 1) 4 (fun _ => 0), (a2 0, .inr (5, [.ref (a2 1), .int 0])), ints G (a2 1) 16 (fun _ => 0), (a3 0, .inr (5, [.ref (a3 1), .int 0])), ints G (a3 1) 4 (fun _ => 0)] : va_W)) rfl ?_
  refine c_ret (wK := wRows G sp ah) (fun j => ([h0, a1 0, a1 1, a2 0, a2 1, a3 0, a3 1] : List Nat).getD j 0) rfl (fun H h => h.sub [0, 1, 2, 3, 4, 5, 6] rfl) (fun h => h.sub [0, 1, 2, 3, 4, 5, 6] (by decide) rfl) (Nat.le_of_ble_eq_true rfl) (Nat.le_of_ble_eq_true rfl) cdX6_init_51
