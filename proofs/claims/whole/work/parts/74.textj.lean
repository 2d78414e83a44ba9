/-! PURE 45: text, all levels. -/
theorem hm0 {u T o : Nat} {y1 y2 y3 y4 y5 y6 : Mm → Option (Bool × Mm)} (f : Nat) (C D : Mm) (q n : Nat) (h : PR u T C D q n o) : fX10_whole_L9 y1 y2 y3 y4 y5 y6 (f + 1) D = if jnS 0 (if q < T then D 1 (542 + q) else 0) = true then (bd (y2 (wr D 0 5 (D 0 5 + 1))) fun r M7 => if r = true then (bd (fX10_lays 3 (if q < T then D 1 (542 + q) else 0) M7) fun _ M9 => fX10_whole_L9 y1 y2 y3 y4 y5 y6 f M9) else some (false, M7)) else some (true, D) := by
  show fX10_whole_L9b y1 y2 y3 y4 y5 y6 (fX10_whole_L9 y1 y2 y3 y4 y5 y6 f) D = _
  unfold fX10_whole_L9b fX10_whole_B35 fX10_whole_B47
  rw [h.look, bd_s]
  by_cases hq : q < T
  · rw [if_pos hq, if_pos hq, show jnS 0 (D 1 (542 + q)) = decide (D 1 (542 + q) = 124) from rfl]
    by_cases e : D 1 (542 + q) = 124
    · rw [if_pos e, decide_eq_true e, if_pos rfl, lt_e, e]
    · rw [if_neg e, decide_eq_false e, if_neg (by decide)]
  · rw [if_neg hq, if_neg hq, jn_0, if_neg (by decide), if_neg (by decide)]
theorem hm1 {u T o : Nat} {y1 y2 y3 y4 y5 y6 : Mm → Option (Bool × Mm)} (f : Nat) (C D : Mm) (q n : Nat) (h : PR u T C D q n o) : fX10_both_L9 y1 y2 y3 y4 y5 y6 (f + 1) D = if jnS 1 (if q < T then D 1 (542 + q) else 0) = true then (bd (y3 (wr D 0 5 (D 0 5 + 1))) fun r M7 => if r = true then (bd (fX10_lays 3 (if q < T then D 1 (542 + q) else 0) M7) fun _ M9 => fX10_both_L9 y1 y2 y3 y4 y5 y6 f M9) else some (false, M7)) else some (true, D) := by
  show fX10_both_L9b y1 y2 y3 y4 y5 y6 (fX10_both_L9 y1 y2 y3 y4 y5 y6 f) D = _
  unfold fX10_both_L9b fX10_both_B35 fX10_both_B47
  rw [h.look, bd_s]
  by_cases hq : q < T
  · rw [if_pos hq, if_pos hq, show jnS 1 (D 1 (542 + q)) = decide (D 1 (542 + q) = 38) from rfl]
    by_cases e : D 1 (542 + q) = 38
    · rw [if_pos e, decide_eq_true e, if_pos rfl, lt_e, e]
    · rw [if_neg e, decide_eq_false e, if_neg (by decide)]
  · rw [if_neg hq, if_neg hq, jn_0, if_neg (by decide), if_neg (by decide)]
theorem hm3 {u T o : Nat} {y1 y2 y3 y4 y5 y6 : Mm → Option (Bool × Mm)} (f : Nat) (C D : Mm) (q n : Nat) (h : PR u T C D q n o) : fX10_sum_L9 y1 y2 y3 y4 y5 y6 (f + 1) D = if jnS 3 (if q < T then D 1 (542 + q) else 0) = true then (bd (y5 (wr D 0 5 (D 0 5 + 1))) fun r M7 => if r = true then (bd (fX10_lays 3 (if q < T then D 1 (542 + q) else 0) M7) fun _ M9 => fX10_sum_L9 y1 y2 y3 y4 y5 y6 f M9) else some (false, M7)) else some (true, D) := by
  show fX10_sum_L9b y1 y2 y3 y4 y5 y6 (fX10_sum_L9 y1 y2 y3 y4 y5 y6 f) D = _
  have hl := h.look
  unfold fX10_sum_L9b
  by_cases hq : q < T
  · rw [if_pos hq] at hl ⊢
    rw [hl, bd_s, show jnS 3 (D 1 (542 + q)) = (decide (D 1 (542 + q) = 43) || decide (D 1 (542 + q) = 45)) from rfl]
    by_cases e : D 1 (542 + q) = 43
    · unfold fX10_sum_B27 fX10_sum_B49
      rw [if_pos e, decide_eq_true e, Bool.true_or, if_pos rfl, hl, bd_s, lt_e]
    · rw [if_neg e, decide_eq_false e, Bool.false_or, hl, bd_s]
      by_cases e2 : D 1 (542 + q) = 45
      · unfold fX10_sum_B27 fX10_sum_B49
        rw [if_pos e2, decide_eq_true e2, if_pos rfl, hl, bd_s, lt_e]
      · unfold fX10_sum_B60
        rw [if_neg e2, decide_eq_false e2, if_neg (by decide)]
  · rw [if_neg hq] at hl ⊢
    unfold fX10_sum_B60
    rw [hl, bd_s, jn_0, if_neg (show ¬ (-1 : Int32) = 43 by decide), hl, bd_s, if_neg (show ¬ (-1 : Int32) = 45 by decide), if_neg (by decide)]
theorem hm4 {u T o : Nat} {y1 y2 y3 y4 y5 y6 : Mm → Option (Bool × Mm)} (f : Nat) (C D : Mm) (q n : Nat) (h : PR u T C D q n o) : fX10_product_L9 y1 y2 y3 y4 y5 y6 (f + 1) D = if jnS 4 (if q < T then D 1 (542 + q) else 0) = true then (bd (y6 (wr D 0 5 (D 0 5 + 1))) fun r M7 => if r = true then (bd (fX10_lays 3 (if q < T then D 1 (542 + q) else 0) M7) fun _ M9 => fX10_product_L9 y1 y2 y3 y4 y5 y6 f M9) else some (false, M7)) else some (true, D) := by
  show fX10_product_L9b y1 y2 y3 y4 y5 y6 (fX10_product_L9 y1 y2 y3 y4 y5 y6 f) D = _
  have hl := h.look
  unfold fX10_product_L9b
  by_cases hq : q < T
  · rw [if_pos hq] at hl ⊢
    rw [hl, bd_s, show jnS 4 (D 1 (542 + q)) = (decide (D 1 (542 + q) = 42) || decide (D 1 (542 + q) = 47) || decide (D 1 (542 + q) = 37)) from rfl]
    by_cases e : D 1 (542 + q) = 42
    · unfold fX10_product_B36 fX10_product_B58
      rw [if_pos e, decide_eq_true e, Bool.true_or, Bool.true_or, if_pos rfl, hl, bd_s, lt_e]
    · rw [if_neg e, decide_eq_false e, Bool.false_or, hl, bd_s]
      by_cases e2 : D 1 (542 + q) = 47
      · unfold fX10_product_B36 fX10_product_B58
        rw [if_pos e2, decide_eq_true e2, Bool.true_or, if_pos rfl, hl, bd_s, lt_e]
      · rw [if_neg e2, decide_eq_false e2, Bool.false_or, hl, bd_s]
        by_cases e3 : D 1 (542 + q) = 37
        · unfold fX10_product_B36 fX10_product_B58
          rw [if_pos e3, decide_eq_true e3, if_pos rfl, hl, bd_s, lt_e]
        · unfold fX10_product_B69
          rw [if_neg e3, decide_eq_false e3, if_neg (by decide)]
  · rw [if_neg hq] at hl ⊢
    unfold fX10_product_B69
    rw [hl, bd_s, jn_0, if_neg (show ¬ (-1 : Int32) = 42 by decide), hl, bd_s, if_neg (show ¬ (-1 : Int32) = 47 by decide), hl, bd_s, if_neg (show ¬ (-1 : Int32) = 37 by decide), if_neg (by decide)]
/-- what a depth o gives with class fuel d (whole level) and reference fuel e -/
def LVs (u T o d e : Nat) : Prop := ∀ (C D : Mm) (q n : Nat), PR u T C D q n o → PT u T o ((grX2_readLevel d).1 0 u (nI o) C) ((grX10_whole e).1 D) C D q n 1
def PTs (u T o d e : Nat) : Prop := ∀ (C D : Mm) (q n : Nat), PR u T C D q n o → PT u T o ((grX2_readLevel d).2.1 u (nI o) C) ((grX10_whole e).2.2.2.2.2 D) C D q n 1
theorem up_lv {u T o d e : Nat} (hp : PTs u T o d e) : LVs u T o (d + 6) (e + 5) := by
  have l5 : ∀ (C D : Mm) (q n : Nat), PR u T C D q n o → PT u T o ((grX2_readLevel (d + 1)).1 (nI 5) u (nI o) C) ((grX10_whole e).2.2.2.2.2 D) C D q n 1 := fun C D q n h => by
    have hx : (grX2_readLevel (d + 1)).1 (nI 5) u (nI o) C = (grX2_readLevel d).2.1 u (nI o) C := by
      show (bd ((grX2_readLevel d).2.1 u (nI o) C) fun r12 M13 => some (r12, M13)) = _
      cases (grX2_readLevel d).2.1 u (nI o) C with
      | none => rfl
      | some p => rfl
    rw [hx]; exact hp C D q n h
  have l4 : ∀ (C D : Mm) (q n : Nat), PR u T C D q n o → PT u T o ((grX2_readLevel (d + 2)).1 (nI 4) u (nI o) C) ((grX10_whole (e + 1)).2.2.2.2.1 D) C D q n 1 := fun C D q n h =>
    lv_b (i := 4) (z1 := (grX2_readLevel (d + 1)).1) (z2 := (grX2_readLevel (d + 1)).2.1) (z3 := (grX2_readLevel (d + 1)).2.2) (by omega) (by omega) l5 (fun f C D q n h => hm4 f C D q n h) h
  have l3 : ∀ (C D : Mm) (q n : Nat), PR u T C D q n o → PT u T o ((grX2_readLevel (d + 3)).1 (nI 3) u (nI o) C) ((grX10_whole (e + 2)).2.2.2.1 D) C D q n 1 := fun C D q n h =>
    lv_b (i := 3) (z1 := (grX2_readLevel (d + 2)).1) (z2 := (grX2_readLevel (d + 2)).2.1) (z3 := (grX2_readLevel (d + 2)).2.2) (by omega) (by omega) l4 (fun f C D q n h => hm3 f C D q n h) h
  have l2 : ∀ (C D : Mm) (q n : Nat), PR u T C D q n o → PT u T o ((grX2_readLevel (d + 4)).1 (nI 2) u (nI o) C) ((grX10_whole (e + 3)).2.2.1 D) C D q n 1 := fun C D q n h =>
    lv_2 (z1 := (grX2_readLevel (d + 3)).1) (z2 := (grX2_readLevel (d + 3)).2.1) (z3 := (grX2_readLevel (d + 3)).2.2) l3 h
  have l1 : ∀ (C D : Mm) (q n : Nat), PR u T C D q n o → PT u T o ((grX2_readLevel (d + 5)).1 (nI 1) u (nI o) C) ((grX10_whole (e + 4)).2.1 D) C D q n 1 := fun C D q n h =>
    lv_b (i := 1) (z1 := (grX2_readLevel (d + 4)).1) (z2 := (grX2_readLevel (d + 4)).2.1) (z3 := (grX2_readLevel (d + 4)).2.2) (by omega) (by omega) l2 (fun f C D q n h => hm1 f C D q n h) h
  exact fun C D q n h =>
    lv_b (i := 0) (z1 := (grX2_readLevel (d + 5)).1) (z2 := (grX2_readLevel (d + 5)).2.1) (z3 := (grX2_readLevel (d + 5)).2.2) (by omega) (by omega) l1 (fun f C D q n h => hm0 f C D q n h) h
