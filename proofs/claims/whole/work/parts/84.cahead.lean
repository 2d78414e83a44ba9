/-! MAKING: Ahead; the shop. -/
def wAhead (G : Gx) (sp : Nat) (ad : Nat → Nat) : va_W := [(ad 0, .inr (0, [.ref sp, .ref (ad 1), .int 0, .int 0])), refs G 1 (ad 1) 8 (fun j => some (ad (2 + 1 * j))), (ad 2, .inr (3, [.int 0, .int 0, .int 0, .int 0, .int 0, .int (-1), .int 0])), (ad 3, .inr (3, [.int 0, .int 0, .int 0, .int 0, .int 0, .int (-1), .int 0])), (ad 4, .inr (3, [.int 0, .int 0, .int 0, .int 0, .int 0, .int (-1), .int 0])), (ad 5, .inr (3, [.int 0, .int 0, .int 0, .int 0, .int 0, .int (-1), .int 0])), (ad 6, .inr (3, [.int 0, .int 0, .int 0, .int 0, .int 0, .int (-1), .int 0])), (ad 7, .inr (3, [.int 0, .int 0, .int 0, .int 0, .int 0, .int (-1), .int 0])), (ad 8, .inr (3, [.int 0, .int 0, .int 0, .int 0, .int 0, .int (-1), .int 0])), (ad 9, .inr (3, [.int 0, .int 0, .int 0, .int 0, .int 0, .int (-1), .int 0]))]
theorem ct_X0 (l : Launch) (G : Gx) (h0 : Nat) (sp : Nat) : CT l G 2 yX0_init cX0_init 3 [.ref sp] h0 0 dX0 (wAhead G sp) 9 64 := by
  refine CT.of (lv := [(0, .ref h0), (1, .ref sp)]) rfl (by decide) rfl rfl rfl (fun sz => ?_)
  refine c_ws (ws' := ([(h0, .inr (0, [.null, .null, .int 0, .int 0]))] : va_W)) rfl ?_
  refine c_aload_n 0 cdX0_init_0 rfl rfl ?_
  refine c_obj cw_245 cw_84 cw_85 rfl cdX0_init_1 ?_
  refine c_aload_n 0 cdX0_init_4 rfl rfl ?_
  refine c_bipush (v := 8) cdX0_init_5 (by decide +kernel) ?_
  refine c_newR (N := 8) (t := 1) rfl cw_246 (fun _ hN => hN.2.1) (by decide) (by decide +kernel) rfl (Nat.le_of_ble_eq_true rfl) (Nat.le_of_ble_eq_true rfl) cdX0_init_7 (fun q1 => ?_)
  refine c_ws (ws' := ([(h0, .inr (0, [.null, .null, .int 0, .int 0])), refs G 1 (q1) 8 (fun _ => none)] : va_W)) rfl ?_
  refine c_putF (q0 := 0) (k := 1) (ty0 := tyX0) rfl rfl inG0 tyX0_ok nmX0 rfl cw_249 rfl rfl rfl rfl rfl rfl cdX0_init_10 ?_
  refine c_ws (ws' := ([(h0, .inr (0, [.null, .ref q1, .int 0, .int 0])), refs G 1 (q1) 8 (fun _ => none)] : va_W)) rfl ?_
  refine c_aload_n 0 cdX0_init_13 rfl rfl ?_
  refine c_aload_n 1 cdX0_init_14 rfl rfl ?_
  refine c_putF (q0 := 0) (k := 0) (ty0 := tyX0) rfl rfl inG0 tyX0_ok nmX0 rfl cw_248 rfl rfl rfl rfl rfl rfl cdX0_init_15 ?_
  refine c_ws (ws' := ([(h0, .inr (0, [.ref sp, .ref q1, .int 0, .int 0])), refs G 1 (q1) 8 (fun _ => none)] : va_W)) rfl ?_
  refine c_iconst (v := 0) cdX0_init_18 (by decide +kernel) ?_
  refine c_istore_n (lv' := [(2, .int 0), (0, .ref h0), (1, .ref sp)]) cdX0_init_19 rfl rfl rfl ?_
  refine c_ws (ws' := (fun f => ([(h0, .inr (0, [.ref sp, .ref q1, .int 0, .int 0])), refs G 1 (q1) 8 (f)] : va_W)) (fun _ => none) ++ ([] : va_W)) rfl ?_
  refine c_loop (P := fun i ws c s => SC (kQ G sz h0 0 dX0 (wAhead G sp)) l G (rmc 2 9 64) cX0_init RX0 3 sz (kA h0 0 dX0 sz) 20 ((2, .int (nI i)) :: [(0, .ref h0), (1, .ref sp)]) [] ws c s) (B := (fun f => ([(h0, .inr (0, [.ref sp, .ref q1, .int 0, .int 0])), refs G 1 (q1) 8 (f)] : va_W))) (wK := wLet G) (n := 8) (dc := 1) (ds := 7) (c0 := 1) (s0 := 8) (X0 := ([] : va_W)) (fun i f X hi kk => ?_) (fun xa hxa => ?_)
  · refine c_iload_n 0 cdX0_init_20 rfl rfl ?_
    refine c_bipush (v := 8) cdX0_init_21 (by decide +kernel) ?_
    refine c_icmpge (tgt := 45) cdX0_init_23 (by decide) (fun h => absurd h (show ¬ (8 : Int32) ≤ nI i from nI_ge (b := 8) (by omega) (by omega))) (fun _ => ?_)
    refine c_aload_n 1 cdX0_init_26 rfl rfl ?_
    refine c_get (q0 := 0) (k := 1) rfl rfl rfl inG0 rfl cw_249 rfl cdX0_init_27 ?_
    refine c_iload_n 0 cdX0_init_30 rfl rfl ?_
    refine c_new (ci := 3) (fs := dX3) rfl inG3 tyX3_ok cw_246 cw_139 cw_65 dX3_ok (by omega) (by omega) cdX0_init_31 (fun q52 => ?_)
    refine c_dup cdX0_init_34 rfl ?_
    refine c_initN (ct_X3 l G q52) oki_X3_init cw_247 rfl rfl rfl rfl (by omega) (by omega) cdX0_init_35 (fun a52 ea52 => ?_)
    subst ea52
    refine c_aast (q0 := 1) (t := 1) rfl rfl rfl rfl (inb_nI hi (by omega)) cdX0_init_38 ?_
    rw [show (nI i).toNatClampNeg = i from ix_nI (by omega)]
    refine c_ws (ws' := (fun f => ([(h0, .inr (0, [.ref sp, .ref q1, .int 0, .int 0])), refs G 1 (q1) 8 (f)] : va_W)) (va_up f i (some (a52 0))) ++ (X ++ wLet G a52)) rfl ?_
    refine c_iinc (k := 0) (v := 1) (lv' := (2, .int (nI i + 1)) :: [(0, .ref h0), (1, .ref sp)]) cdX0_init_39 rfl (by decide +kernel) rfl rfl ?_
    refine c_goto (tgt := 20) cdX0_init_42 (by decide) ?_
    refine c_eq (c2 := 1 + (i + 1) * 1) (s2 := 8 + (i + 1) * 7) (by omega) (by omega) ?_
    rw [nI_1 i]
    exact kk a52
  obtain ⟨xxa, rfl⟩ := list_fn hxa
  refine c_ws (ws' := ([(h0, .inr (0, [.ref sp, .ref q1, .int 0, .int 0])), refs G 1 (q1) 8 (aF ((List.range 8).map xxa))] : va_W) ++ (([] : va_W) ++ ((List.range 8).map xxa).flatMap (wLet G))) rfl ?_
  refine c_eq (c2 := 9) (s2 := 64) rfl rfl ?_
  refine c_iload_n 0 cdX0_init_20 rfl rfl ?_
  refine c_bipush (v := 8) cdX0_init_21 (by decide +kernel) ?_
  refine c_icmpge (tgt := 45) cdX0_init_23 (by decide) (fun _ => ?_) (fun h => absurd (by decide) h)
  refine c_ret (wK := wAhead G sp) (fun k => if k < 1 then h0 else if k < 2 then q1 else xxa (k - 2) 0) rfl (fun H h => (P_refs h (k := 1) (g := fun j => some (if 2 + 1 * j < 1 then h0 else if 2 + 1 * j < 2 then q1 else xxa (2 + 1 * j - 2) 0)) rfl (fun j hj => ?_)).sub [0, 1, 2, 3, 4, 5, 6, 7, 8, 9] rfl) (fun h => (D_put (k := 1) (y := _) h rfl).sub [0, 1, 2, 3, 4, 5, 6, 7, 8, 9] (by decide) rfl) (Nat.le_of_ble_eq_true rfl) (Nat.le_of_ble_eq_true rfl) cdX0_init_45
  rw [aF_range hj, if_neg (by omega), if_neg (by omega), show 2 + 1 * j - 2 = j by omega]
def MSh : Mm := fun a j => if a < 1 then (if j = 1 then 1000 else if j = 4 then 1 else 0) else if a < 2 then 5 else if a < 4 then 0 else if a < 28 then (if j = 5 then -1 else 0) else 0
abbrev wShop (G : Gx) (ad : Nat → Nat) : va_W := WS (layC.take 68) (gA G ad) MSh
def shAd (h0 q1 q2 q3 q4 q7 : Nat) (l1 l2 tp wt : Nat → Nat) (xl xp xw : Nat → Nat → Nat) (k : Nat) : Nat := if k < 4 then ([h0, q1, q4, q2] : List Nat).getD k 0 else if k < 28 then xl (k - 4) 0 else if k < 29 then q3 else if k < 37 then xp ((k - 29) / 2) ((k - 29) % 2) else if k < 42 then l1 (k - 37) else if k < 47 then l2 (k - 42) else if k < 48 then q7 else if k < 64 then xw ((k - 48) / 2) ((k - 48) % 2) else if k < 66 then tp (k - 64) else wt (k - 66)
section SHA
variable {h0 q1 q2 q3 q4 q7 : Nat} {l1 l2 tp wt : Nat → Nat} {xl xp xw : Nat → Nat → Nat} {j : Nat}
theorem shAd_l (hj : j < 24) : shAd h0 q1 q2 q3 q4 q7 l1 l2 tp wt xl xp xw (4 + 1 * j) = xl j 0 := by
  unfold shAd
  rw [if_neg (by omega), if_pos (by omega), show 4 + 1 * j - 4 = j by omega]
theorem shAd_p (hj : j < 4) : shAd h0 q1 q2 q3 q4 q7 l1 l2 tp wt xl xp xw (29 + 2 * j) = xp j 0 := by
  unfold shAd
  rw [if_neg (by omega), if_neg (by omega), if_neg (by omega), if_pos (by omega), show (29 + 2 * j - 29) / 2 = j by omega, show (29 + 2 * j - 29) % 2 = 0 by omega]
theorem shAd_w (hj : j < 8) : shAd h0 q1 q2 q3 q4 q7 l1 l2 tp wt xl xp xw (48 + 2 * j) = xw j 0 := by
  unfold shAd
  rw [if_neg (by omega), if_neg (by omega), if_neg (by omega), if_neg (by omega), if_neg (by omega), if_neg (by omega), if_neg (by omega), if_pos (by omega), show (48 + 2 * j - 48) / 2 = j by omega, show (48 + 2 * j - 48) % 2 = 0 by omega]
end SHA
