/-! PURE 46: text, all depths; the call. -/
theorem pts {u T : Nat} : ∀ k o d e : Nat, o + k = 5 → PTs u T o (8 * k + 2 + d) (6 * k + 1 + e) := by
  intro k
  induction k with
  | zero =>
    intro o d e ho C D q n h
    rw [show 8 * 0 + 2 + d = (d + 1) + 1 by omega, show 6 * 0 + 1 + e = e + 1 by omega]
    exact pt_one (z1 := (grX2_readLevel (d + 1)).1) (z2 := (grX2_readLevel (d + 1)).2.1) (w1 := (grX2_readLevel d).1) (w2 := (grX2_readLevel d).2.1) (w3 := (grX2_readLevel d).2.2) (y1 := (grX10_whole e).1) (y2 := (grX10_whole e).2.1) (y3 := (grX10_whole e).2.2.1) (y4 := (grX10_whole e).2.2.2.1) (y5 := (grX10_whole e).2.2.2.2.1) (y6 := (grX10_whole e).2.2.2.2.2) (fun z => by omega) (fun z => by omega) h
  | succ k ih =>
    intro o d e ho C D q n h
    have hp : PTs u T (o + 1) (8 * k + 8 + d) (6 * k + 6 + e) := by
      have := ih (o + 1) (d + 6) (e + 5) (by omega)
      rw [show 8 * k + 2 + (d + 6) = 8 * k + 8 + d by omega, show 6 * k + 1 + (e + 5) = 6 * k + 6 + e by omega] at this
      exact this
    have hl : LVs u T (o + 1) (8 * k + 8 + d) (6 * k + 6 + e) := by
      have := up_lv (ih (o + 1) d e (by omega))
      rw [show 8 * k + 2 + d + 6 = 8 * k + 8 + d by omega, show 6 * k + 1 + e + 5 = 6 * k + 6 + e by omega] at this
      exact this
    rw [show 8 * (k + 1) + 2 + d = ((8 * k + 8 + d) + 1) + 1 by omega, show 6 * (k + 1) + 1 + e = (6 * k + 6 + e) + 1 by omega]
    generalize 8 * k + 8 + d = d2 at hp hl ⊢
    generalize 6 * k + 6 + e = e2 at hp hl ⊢
    exact pt_one (z1 := (grX2_readLevel (d2 + 1)).1) (z2 := (grX2_readLevel (d2 + 1)).2.1) (w1 := (grX2_readLevel d2).1) (w2 := (grX2_readLevel d2).2.1) (w3 := (grX2_readLevel d2).2.2) (y1 := (grX10_whole e2).1) (y2 := (grX10_whole e2).2.1) (y3 := (grX10_whole e2).2.2.1) (y4 := (grX10_whole e2).2.2.2.1) (y5 := (grX10_whole e2).2.2.2.2.1) (y6 := (grX10_whole e2).2.2.2.2.2) (fun _ => hl) (fun _ => hp) h
theorem lvs (u T : Nat) : LVs u T 0 80 80 := up_lv (pts 5 0 32 44 (by omega))
theorem tcopy {u n : Nat} (hu : u < 2) (hn : n ≤ 60) : ∀ (m f j : Nat) (D : Mm), m < f → j + m = 2 * n → D 0 7 = nI n → ∃ D', fX10_text_L102 (nI (292 + 125 * u)) f (nI j) D = some (1, D') ∧ (∀ i, j ≤ i → i < 2 * n → D' 1 (293 + 125 * u + i) = D 5 i) ∧ (∀ i, ¬ (293 + 125 * u + j ≤ i ∧ i < 293 + 125 * u + 2 * n) → D' 1 i = D 1 i) ∧ (∀ a, a ≠ 1 → D' a = D a) := by
  intro m
  induction m with
  | zero =>
    intro f j D hf hj h7
    obtain ⟨g, rfl⟩ : ∃ g, f = g + 1 := ⟨f - 1, by omega⟩
    unfold fX10_text_L102 fX10_text_L102b fX10_text_B137
    rw [h7, show (2 : Int32) * nI n = nI (2 * n) by rw [← pk_mul]; rfl, if_pos (show nI (2 * n) ≤ nI j from nI_le (by omega) (by omega))]
    exact ⟨D, rfl, fun i h1 h2 => by omega, fun i _ => rfl, fun a _ => rfl⟩
  | succ m ih =>
    intro f j D hf hj h7
    obtain ⟨g, rfl⟩ : ∃ g, f = g + 1 := ⟨f - 1, by omega⟩
    unfold fX10_text_L102 fX10_text_L102b
    rw [h7, show (2 : Int32) * nI n = nI (2 * n) by rw [← pk_mul]; rfl, if_neg (show ¬ nI (2 * n) ≤ nI j from nI_ge (by omega) (by omega)), inb_nI (show j < 124 by omega) (by omega), gd_t, nI_1, nI_add, inb_nI (show 292 + 125 * u + 1 + j < 626 by omega) (by omega), gd_t, ix_nI (by omega), ix_nI (by omega), lt_e, nI_1]
    obtain ⟨D', s1, s2, s3, s4⟩ := ih g (j + 1) (wr D 1 (292 + 125 * u + 1 + j) (D 5 j)) (by omega) (by omega) (by rw [wr_c (by decide)]; exact h7)
    refine ⟨D', s1, fun i h1 h2 => ?_, fun i h1 => ?_, fun a ha => by rw [s4 a ha, wr_c ha]⟩
    · by_cases e : i = j
      · subst e
        rw [s3 _ (by omega), show 293 + 125 * u + i = 292 + 125 * u + 1 + i by omega, wr_s]
      · rw [s2 i (by omega) h2, wr_c (by decide)]
    · rw [s3 i (by omega), wr_j (by omega)]
theorem dF_dpt {D : Mm} {s : Sx} {u n : Nat} (h : ∀ k, k < n → s (293 + 125 * u + 2 * k) = D 5 (2 * k)) : ∀ k, k ≤ n → dpt s u k = dF D k
  | 0, _ => rfl
  | k + 1, hk => by
    have ih := dF_dpt h k (by omega)
    simp only [dF, dpt, ih, h k (by omega)]
theorem op_text {C D : Mm} (h : Rel C D) (a : Int32) : Op (fX9_text a C) (fX10_text a D) := by
  have hFU := FU_big
  have hT := h.si.1.2.2.1
  unfold fX9_text fX10_text
  rw [e_isWithin, e_in, bd_s, bd_s]
  by_cases hw : wi a 0 1 = true
  · obtain ⟨u, hu, rfl⟩ := wi_in (n := 1) (by omega) hw
    have hu2 : u < 2 := by omega
    rw [if_pos hw, if_pos hw, lt_e, lt_e, lt_e, lt_e]
    have hx : (if nI u = 0 then (fX9_text_B31 (nI u) 0 C) else fX9_text_B31 (nI u) 1 C) = fX9_text_B31 (nI u) u C := by
      rcases (show u = 0 ∨ u = 1 by omega) with rfl | rfl
      · rfl
      · rfl
    rw [hx]
    unfold fX9_text_B31 fX2_faultOfTape
    rw [e_clear c154.1, bd_s, lt_e]
    have f1 : FP C (wr (wr C 154 1 0) 153 2 0) := fun x x1 x2 _ => by rw [wr_c x1, wr_c x2]
    have f2 : ∀ x, x ≠ 0 → wr (wr (wr (wr D 0 8 (nI u)) 0 5 0) 0 6 0) 0 7 0 x = D x := fun x x1 => by rw [wr_c x1, wr_c x1, wr_c x1, wr_c x1]
    have f3 : ∀ j, j ≠ 5 → j ≠ 6 → j ≠ 7 → j ≠ 8 → wr (wr (wr (wr D 0 8 (nI u)) 0 5 0) 0 6 0) 0 7 0 0 j = D 0 j := fun j j1 j2 j3 j4 => by rw [wr_j j3, wr_j j2, wr_j j1, wr_j j4]
    have hPR : PR u (nT (D 1)) (wr (wr C 154 1 0) 153 2 0) (wr (wr (wr (wr D 0 8 (nI u)) 0 5 0) 0 6 0) 0 7 0) 0 0 0 := by
      refine ⟨⟨?_, hT.2, ?_, fun j hj => ?_⟩, ⟨wr_s, ?_, by omega⟩, ⟨?_, wr_s, by omega⟩, ⟨?_, by omega⟩, ⟨?_, hu2⟩, fun k hk => by omega⟩
      · rw [f1 64 (by decide) (by decide) (by decide)]; exact h.rs.2.2.2.2.2.2.2.1.1.trans hT.1
      · rw [f2 1 (by decide)]; exact hT.1
      · rw [f1 65 (by decide) (by decide) (by decide), f2 1 (by decide)]
        exact ⟨h.rs.2.2.2.2.2.2.2.1.2 j hj, h.si.2.2.2.2.2.2 j hj⟩
      · rw [wr_j (by decide), wr_j (by decide), wr_s]; rfl
      · rw [wr_c (by decide), wr_s]; rfl
      · rw [wr_j (by decide), wr_s]; rfl
      · rw [wr_j (by decide), wr_j (by decide), wr_j (by decide), wr_s]
    obtain ⟨ok, C', D', e1, e2, e3, e4, e5, e6⟩ := lvs u (nT (D 1)) _ _ 0 0 hPR
    have e1' : fX2_readLevel DPR 0 u 0 (wr (wr C 154 1 0) 153 2 0) = some (ok, C') := e1
    have e2' : fX10_whole DPM (wr (wr (wr (wr D 0 8 (nI u)) 0 5 0) 0 6 0) 0 7 0) = some (ok, D') := e2
    rw [e1', e2', bd_s, bd_s]
    have eC : FP C C' := f1.tr e3
    have eD : ∀ x, x ≠ 0 → x ≠ 5 → D' x = D x := fun x x1 x2 => (e4.1 x x1 x2).trans (f2 x x1)
    have eD0 : ∀ j, j ≠ 5 → j ≠ 6 → j ≠ 7 → j ≠ 8 → D' 0 j = D 0 j := fun j j1 j2 j3 j4 => (e4.2 j j1 j2 j3).trans (f3 j j1 j2 j3 j4)
    have eD1 : D' 1 = D 1 := eD 1 (by decide) (by decide)
    have hR : Rel C' D' := Rel_now h (by rw [eD1]; exact h.si) (by rw [eD1]; exact RS_frame h.si (fun x hx => eC x (by unfold shc at hx; omega) (by unfold shc at hx; omega) (by unfold shc at hx; omega)) h.rs) (fun x hx => eC x (by omega) (by omega) (by omega)) ⟨eD 2 (by decide) (by decide), eD 4 (by decide) (by decide), eD 12 (by decide) (by decide), eD 13 (by decide) (by decide), eD 14 (by decide) (by decide), eD 15 (by decide) (by decide), eD0 3 (by decide) (by decide) (by decide) (by decide), eD0 19 (by decide) (by decide) (by decide) (by decide)⟩
    have h0 := r_tape0 hR
    have hbad : ∀ q, q ≤ 60 → C' 153 2 = nI q → D' 0 5 = nI q → Op (bd (fX2_faultOfTape_B42 C') fun r5 M6 => bd (fX5_clear 64 M6) fun r7 M8 => if r5 < 0 then (bd (fX7_lawOf (nI u) M8) fun r9 M10 => gd (isC layC r9 1) <| gd (isC layC (fR layC r9 0) 5) <| bd (fX5_takeFrom (fR layC r9 0) 154 M10) fun r13 M14 => some ((1 : Int32), M14)) else some ((-10 : Int32) - r5, M8)) (fX10_text_B59 (nI u) D') := fun q hq q1 q2 => by
      unfold fX2_faultOfTape_B42 fX2_faultOfTape_B46 fX10_text_B59 fX10_text_B60
      rw [bd_s, e_clear (by decide), bd_s, q1, if_neg (show ¬ nI q < 0 from nI_pos (by omega)), ix_lit5, lt_e, if_pos (show (0 : Int32) = 0 from rfl), wr_c (show (0 : Nat) ≠ 1 by decide), q2]
      exact ⟨_, _, _, rfl, rfl, h0⟩
    cases ok with
    | false =>
      obtain ⟨_, ⟨q, q1, q2, q3⟩, _⟩ := e6 rfl
      rw [if_neg (show ¬ false = true by decide), if_neg (show ¬ false = true by decide)]
      exact hbad q (by omega) q2 q3
    | true =>
      obtain ⟨q, n, p, p1, p2, p3, p4, p5⟩ := e5 rfl
      obtain ⟨t1, t2, t3, t4, t5, t6⟩ := p
      rw [if_pos (show true = true from rfl), if_pos (show true = true from rfl), ix_lit5, t2.1, t1.1, t2.2.1, t1.2.2.1]
      by_cases hq : nI q = nI (nT (D 1))
      · rw [if_pos hq, if_pos hq]
        unfold fX2_faultOfTape_B46 fX10_text_B60
        have k1 : isC layC (37 + 5 * u) 1 = true := by rcases (show u = 0 ∨ u = 1 by omega) with rfl | rfl <;> decide
        have k2 : fR layC (37 + 5 * u) 0 = 38 + 5 * u := by rcases (show u = 0 ∨ u = 1 by omega) with rfl | rfl <;> decide
        have k3 : isC layC (38 + 5 * u) 5 = true := by rcases (show u = 0 ∨ u = 1 by omega) with rfl | rfl <;> decide
        have k4 : aN layC (38 + 5 * u + 1) = 60 := by rcases (show u = 0 ∨ u = 1 by omega) with rfl | rfl <;> decide
        have hn60 : n ≤ 60 := by omega
        have hcap := c154.2.1
        rw [bd_s, e_clear (by decide), bd_s, if_pos (show (-1 : Int32) < 0 by decide), e_lawOf hu2, bd_s, k1, gd_t, k2, k3, gd_t, e_takeFrom (n := n) k3 c154.1 (by rw [wr_c (by decide)]; exact t3.1) (by omega) (by omega), bd_s, ix_lit5, lt_e, if_neg (show ¬ (1 : Int32) = 0 by decide), lt_e, show (292 : Int32) + (125 : Int32) * nI u = nI (292 + 125 * u) by rw [← nI_add, ← pk_mul]; rfl, inb_nI (by omega) (by omega), gd_t, ix_nI (by omega), lt_e, wr_c (show (0 : Nat) ≠ 1 by decide), t3.2.1]
        obtain ⟨D2, s1, s2, s3, s4⟩ := tcopy hu2 hn60 (2 * n) FU 0 (wr (wr D' 1 5 0) 1 (292 + 125 * u) (nI n)) (by omega) (by omega) (by rw [wr_c (by decide), wr_c (by decide)]; exact t3.2.1)
        rw [show nI 0 = (0 : Int32) from rfl] at s1
        rw [s1]
        refine ⟨_, _, _, rfl, rfl, ?_⟩
        have g5 : ∀ i, i < 2 * n → D2 1 (293 + 125 * u + i) = D' 5 i := fun i hi => by rw [s2 i (by omega) hi, wr_c (by decide), wr_c (by decide)]
        have g0 : D2 1 (292 + 125 * u) = nI n := by rw [s3 _ (by omega), wr_s]
        have eX : nX (D2 1) u = n := by unfold nX; rw [g0, ix_nI (by omega)]
        refine r_text hu2 h0 (fun i hi h1 => ?_) (fun k k1 k2 k3 _ _ _ _ => ?_) ⟨by rw [eX]; exact g0, by omega, fun k hk => ?_⟩ ?_ (fun k hk => ?_) ?_ ?_
        · rw [s3 i (by omega), wr_j (by omega)]
        · rw [cpm_c (by omega), wr_c k2]
        · rw [eX] at hk
          rw [g5 (2 * k) (by omega), show 294 + 125 * u + 2 * k = 293 + 125 * u + (2 * k + 1) by omega, g5 (2 * k + 1) (by omega), dF_dpt (n := n) (D := D') (fun k hk => g5 (2 * k) (by omega)) k (by omega)]
          exact (t6 k hk).2
        · rw [cpm_c (by omega), wr_s, g0]
        · rw [eX] at hk
          rw [g5 (2 * k) (by omega), show 294 + 125 * u + 2 * k = 293 + 125 * u + (2 * k + 1) by omega, g5 (2 * k + 1) (by omega), show 39 + 5 * u = 38 + 5 * u + 1 by omega, cpm_k]
          unfold va_cpy
          rw [if_pos (by omega), wr_c (by omega), wr_c (by omega), show 154 + 1 = 155 from rfl, show 0 + (k - 0) = k by omega]
          exact (t6 k hk).1
        · exact fun x hx => by rw [cpm_c (by omega), wr_c (by omega)]
        · refine MF_1.tr ⟨s4 2 (by decide), s4 4 (by decide), s4 12 (by decide), s4 13 (by decide), s4 14 (by decide), s4 15 (by decide), by rw [s4 0 (by decide)], by rw [s4 0 (by decide)]⟩
      · rw [if_neg hq, if_neg hq]
        exact hbad q (by have := hT.2; omega) t2.1 t2.2.1
  · rw [if_neg hw, if_neg hw, e_ref1, e_err1]
    exact op_err h (by decide) (by decide)
