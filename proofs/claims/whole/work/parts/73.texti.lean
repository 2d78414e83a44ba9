/-! PURE 44: text, one part. -/
theorem no_name : ∀ u : Fin 2, ∀ k : Fin 256, (48 ≤ k.val ∧ k.val ≤ 57) ∨ k.val = 33 ∨ k.val = 40 → isNmB u.val (nI k.val) = false := by decide +kernel
theorem nm_m1 : ∀ u : Fin 2, isNmB u.val (-1) = false := by decide
theorem dF_s {D' : Mm} {n : Nat} (h : D' 5 (2 * n) = 0 ∨ D' 5 (2 * n) = 1) : dF D' (n + 1) = dF D' n + 1 := by
  simp only [dF]; rw [if_pos h]
theorem pt_one {u T o : Nat} {z1 w1 : Int32 → Nat → Int32 → Mm → Option (Bool × Mm)} {z2 w2 : Nat → Int32 → Mm → Option (Bool × Mm)} {w3 : Int32 → Nat → Int32 → Mm → Option (Bool × Mm)} {y1 y2 y3 y4 y5 y6 : Mm → Option (Bool × Mm)}
    (hL : o < 5 → ∀ (C D : Mm) (q n : Nat), PR u T C D q n (o + 1) → PT u T (o + 1) (w1 0 u (nI (o + 1)) C) (y1 D) C D q n 1)
    (hP : o < 5 → ∀ (C D : Mm) (q n : Nat), PR u T C D q n (o + 1) → PT u T (o + 1) (w2 u (nI (o + 1)) C) (y6 D) C D q n 1)
    {C D : Mm} {q n : Nat} (h : PR u T C D q n o) : PT u T o (fX2_readPart_b z1 z2 (fX2_readOpened_b w1 w2 w3) u (nI o) C) (fX10_one_b y1 y2 y3 y4 y5 y6 D) C D q n 1 := by
  have hFU := FU_big
  have h60 := h.1.2.1
  have hqT := h.2.1.2.2
  have hnq := h.2.2.1.2.2
  have hu := h.2.2.2.2.1
  have ho := h.2.2.2.1
  unfold fX2_readPart_b fX10_one_b fX2_isDigit
  rw [h.at, bd_s, e_isWithin, bd_s, bd_s, h.look, bd_s, e_isName hu.2 hu.1, bd_s, e_in, bd_s]
  by_cases hq : q < T
  · obtain ⟨k, hk, ek⟩ := (h.1.2.2.2 q hq).2
    rw [if_pos hq, if_pos hq, ek, wi_dg hk]
    by_cases hd : 48 ≤ k ∧ k ≤ 57
    · have hnn := no_name ⟨u, hu.2⟩ ⟨k, by omega⟩ (Or.inl hd)
      dsimp only at hnn
      obtain ⟨C', D', q', s0, s1, s2, s3, s4, s5, s6, s7, s8, s9⟩ := num_loop (z1 := y1) (z2 := y2) (z3 := y3) (z4 := y4) (z5 := y5) (z6 := y6) 4 FU FU 0 0 C D q (by omega) (by omega) (by omega) (by omega) h (Or.inr ⟨by omega, hq, k, hd.1, hd.2, ek⟩)
      have hlt := s0 (by omega) ⟨hq, k, hd.1, hd.2, ek⟩
      rw [show nI 0 = (0 : Int32) from rfl] at s1 s2
      unfold fX2_readNumber
      rw [hnn, decide_eq_true hd, if_pos rfl, if_neg (by decide), if_pos rfl, s1, bd_s, s2]
      exact ⟨true, C', D', rfl, rfl, s6, s7, fun _ => ⟨q', n + 1, s3, by omega, by omega, by omega, by rw [dF_s (Or.inl s9), dF_cg (n := n) (fun k hk => s8 _ (by omega)) n (Nat.le_refl n)], s8⟩, fun z => by cases z⟩
    · rw [decide_eq_false hd, if_neg (show ¬ false = true by decide), if_neg (show ¬ false = true by decide)]
      have hopen : ∀ b : Int32, b = nI k → (k = 33 ∨ k = 40) → isNmB u (nI k) = false := fun b _ hk2 => by
        have := no_name ⟨u, hu.2⟩ ⟨k, by omega⟩ (Or.inr hk2)
        exact this
      unfold fX2_readPart_B37 fX2_readPart_B58 fX2_readPart_B59 fX10_one_B122 fX10_one_B171 fX10_opens
      by_cases h33 : k = 33
      · have hnn := hopen _ rfl (Or.inl h33)
        subst h33
        rw [hnn, if_neg (show ¬ false = true by decide), if_pos (show nI 33 = (33 : Int32) from rfl), if_pos (show nI 33 = (33 : Int32) from rfl), ho.1]
        by_cases ho5 : o = 5
        · subst ho5
          rw [if_pos (by decide), if_pos (by decide), bd_s, if_neg (by decide)]
          exact ⟨false, C, D, rfl, rfl, FP.rf C, FQ.rf D, (fun z => by cases z), fun _ => h.pf⟩
        · have ho2 := ho.2
          obtain ⟨b1, b2⟩ := h.op (o2 := o + 1) (by omega)
          obtain ⟨a1, a2, a3⟩ := b1.adv hq
          obtain ⟨ok, C1, D1, e1, e2, e3, e4, e5, e6⟩ := hP (by omega) _ _ (q + 1) n a1
          rw [if_neg (show ¬ (5 : Int32) ≤ nI o from nI_ge (b := 5) (by omega) (by omega)), if_neg (show ¬ nI o = (5 : Int32) by rw [show (5 : Int32) = nI 5 from rfl, eq_nI (by omega) (by omega)]; exact ho5), show nI o + 1 = nI (o + 1) from nI_1 o, lt_e, lt_e, bd_s, if_pos rfl]
          unfold fX2_readOpened_b
          rw [lt_e, if_pos (show nI 33 = (33 : Int32) from rfl), e1, bd_s, e2, bd_s]
          cases ok with
          | true =>
            obtain ⟨q1, n1, p1, p2, p3, p4, p5, p6⟩ := e5 rfl
            have ed : dF (wr (wr D 0 6 (nI (o + 1))) 0 5 (wr D 0 6 (nI (o + 1)) 0 5 + 1)) n = dF D n := dF_cg (n := n) (fun k _ => by rw [wr_c (by decide), wr_c (by decide)]) n (Nat.le_refl n)
            rw [ed] at p5
            obtain ⟨c1, c2⟩ := p1.op (o2 := o) (by omega)
            have ed1 : dF (wr D1 0 6 (nI o)) n1 = dF D1 n1 := dF_cg (n := n1) (fun k _ => by rw [wr_c (by decide)]) n1 (Nat.le_refl n1)
            obtain ⟨C2, D2, l1, l2, l3, l4, l5, l6, l7⟩ := c1.lay (by omega) (c := -33) (w := 2) (v := 0) (Or.inr (Or.inr (Or.inl ⟨rfl, rfl⟩))) (Or.inr (Or.inr (Or.inl ⟨rfl, by omega⟩)))
            have ed2 : dF D2 (n1 + 1) = dF D n + 1 := by
              have : dF D2 n1 = dF (wr D1 0 6 (nI o)) n1 := dF_cg (n := n1) (fun k hk => l6 _ (by omega)) n1 (Nat.le_refl n1)
              simp only [dF]
              rw [l7, if_neg (show ¬ ((2 : Int32) = 0 ∨ (2 : Int32) = 1) by decide), if_pos rfl, this, ed1, p5]
            rw [l1, bd_s, bd_s, if_pos rfl, if_pos rfl, p1.2.2.2.1.1, nI_m1, lt_e, l2, bd_s]
            exact ⟨true, C2, D2, rfl, rfl, (a2.tr e3).tr l4, (((b2.tr a3).tr e4).tr c2).tr l5, fun _ => ⟨q1, n1 + 1, l3, by omega, by omega, by omega, ed2, fun j hj => by rw [l6 j (by omega), wr_c (by decide), p6 j hj, wr_c (by decide), wr_c (by decide)]⟩, fun z => by cases z⟩
          | false =>
            obtain ⟨x, C2, l1, l2, l3⟩ := (e6 rfl).add (-33)
            rw [l1, bd_s, bd_s, if_neg (by decide), if_neg (by decide)]
            exact ⟨false, C2, D1, rfl, rfl, (a2.tr e3).tr l3, (b2.tr a3).tr e4, (fun z => by cases z), fun _ => l2⟩
      · have n33 : ¬ nI k = (33 : Int32) := by rw [show (33 : Int32) = nI 33 from rfl, eq_nI (by omega) (by omega)]; exact h33
        rw [if_neg n33, if_neg n33]
        by_cases h40 : k = 40
        · have hnn := hopen _ rfl (Or.inr h40)
          subst h40
          rw [hnn, if_neg (show ¬ false = true by decide), if_pos (show nI 40 = (40 : Int32) from rfl), if_pos (show nI 40 = (40 : Int32) from rfl), ho.1]
          by_cases ho5 : o = 5
          · subst ho5
            rw [if_pos (by decide), if_pos (by decide), bd_s, if_neg (by decide)]
            exact ⟨false, C, D, rfl, rfl, FP.rf C, FQ.rf D, (fun z => by cases z), fun _ => h.pf⟩
          · have ho2 := ho.2
            obtain ⟨b1, b2⟩ := h.op (o2 := o + 1) (by omega)
            obtain ⟨a1, a2, a3⟩ := b1.adv hq
            obtain ⟨ok, C1, D1, e1, e2, e3, e4, e5, e6⟩ := hL (by omega) _ _ (q + 1) n a1
            rw [if_neg (show ¬ (5 : Int32) ≤ nI o from nI_ge (b := 5) (by omega) (by omega)), if_neg (show ¬ nI o = (5 : Int32) by rw [show (5 : Int32) = nI 5 from rfl, eq_nI (by omega) (by omega)]; exact ho5), show nI o + 1 = nI (o + 1) from nI_1 o, lt_e, lt_e, bd_s, if_pos rfl]
            unfold fX2_readOpened_b fX2_readOpened_B63
            rw [lt_e, if_neg (show ¬ nI 40 = (33 : Int32) by decide), e1, bd_s, e2, bd_s]
            cases ok with
            | true =>
              obtain ⟨q1, n1, p1, p2, p3, p4, p5, p6⟩ := e5 rfl
              have ed : dF (wr (wr D 0 6 (nI (o + 1))) 0 5 (wr D 0 6 (nI (o + 1)) 0 5 + 1)) n = dF D n := dF_cg (n := n) (fun k _ => by rw [wr_c (by decide), wr_c (by decide)]) n (Nat.le_refl n)
              rw [ed] at p5
              rw [if_pos rfl, if_pos rfl, p1.at, bd_s, p1.look, bd_s]
              by_cases h41 : q1 < T ∧ D1 1 (542 + q1) = 41
              · obtain ⟨g1, g2, g3⟩ := p1.adv h41.1
                obtain ⟨c1, c2⟩ := g1.op (o2 := o) (by omega)
                rw [if_pos h41.1, if_pos h41.1, if_pos h41.2, if_pos h41.2, lt_e, bd_s, if_pos rfl, lt_e, g1.2.2.2.1.1, nI_m1, lt_e]
                refine ⟨true, _, _, rfl, rfl, (a2.tr e3).tr g2, (((b2.tr a3).tr e4).tr g3).tr c2, fun _ => ⟨q1 + 1, n1, c1, by omega, by omega, by omega, ?_, fun j hj => by rw [wr_c (by decide), wr_c (by decide), p6 j hj, wr_c (by decide), wr_c (by decide)]⟩, fun z => by cases z⟩
                rw [← p5]
                exact dF_cg (n := n1) (fun k _ => by rw [wr_c (by decide), wr_c (by decide)]) n1 (Nat.le_refl n1)
              · have x1 : ¬ (if q1 < T then D1 1 (542 + q1) else 0) = 41 := by
                  by_cases z : q1 < T
                  · rw [if_pos z]; exact fun y => h41 ⟨z, y⟩
                  · rw [if_neg z]; decide
                have x2 : ¬ (if q1 < T then D1 1 (542 + q1) else -1) = 41 := by
                  by_cases z : q1 < T
                  · rw [if_pos z]; exact fun y => h41 ⟨z, y⟩
                  · rw [if_neg z]; decide
                rw [if_neg x1, if_neg x2, bd_s, if_neg (by decide)]
                exact ⟨false, C1, D1, rfl, rfl, a2.tr e3, (b2.tr a3).tr e4, (fun z => by cases z), fun _ => p1.pf⟩
            | false =>
              rw [if_neg (by decide), if_neg (by decide), bd_s, if_neg (by decide)]
              exact ⟨false, C1, D1, rfl, rfl, a2.tr e3, (b2.tr a3).tr e4, (fun z => by cases z), fun _ => e6 rfl⟩
        · have n40 : ¬ nI k = (40 : Int32) := by rw [show (40 : Int32) = nI 40 from rfl, eq_nI (by omega) (by omega)]; exact h40
          rw [if_neg n40, if_neg n40, h.1.1, h.2.1.1, if_neg (show ¬ nI T ≤ nI q from nI_ge (by omega) (by omega)), decide_eq_true hu.2, gd_t, e_idx hu.2 hk, bd_s]
          unfold fX2_readPart_B84
          rcases nm_two hu.2 hk with ⟨m1, i, i1, i2, i3, i4⟩ | ⟨m1, m2⟩
          · have hi4 : i < 5 := by unfold nmN at i1; split at i1 <;> omega
            obtain ⟨g1, g2, g3⟩ := h.adv hq
            obtain ⟨C2, D2, l1, l2, l3, l4, l5, l6, l7⟩ := g1.lay (by omega) (c := -1 - nI i) (w := 1) (v := nI k) (Or.inr (Or.inl ⟨rfl, i, i1, rfl, i3⟩)) (Or.inr (Or.inl ⟨rfl, i4⟩))
            have hcl : ∃ x C3, fX5_add 154 (-1 - nI i) C = some (x, C3) ∧ wr C3 153 2 (C3 153 2 + 1) = C2 := by
              refine ⟨true, _, e_add c154.1 h.2.2.1.1 (by have := c154.2.1; omega) _, ?_⟩
              rw [e_add c154.1 g1.2.2.1.1 (by have := c154.2.1; omega) _] at l1
              injection l1 with l1
              injection l1 with _ l1
              rw [← l1, wr_c (show (153 : Nat) ≠ 154 by decide), wr_c (show (153 : Nat) ≠ 154 + 1 by decide), wr_cm (show (154 : Nat) ≠ 153 by decide), wr_cm (show (154 + 1 : Nat) ≠ 153 by decide)]
            obtain ⟨x, C3, x1, x2⟩ := hcl
            rw [m1, if_pos rfl, i2, if_pos (nI_pos' (by omega)), x1, bd_s, lt_e, x2, lt_e, l2, bd_s]
            exact ⟨true, C2, D2, rfl, rfl, g2.tr l4, g3.tr l5, fun _ => ⟨q + 1, n + 1, l3, by omega, by omega, by omega, by rw [dF_s (Or.inr l7), dF_cg (n := n) (D := D) (fun k hk => by rw [l6 _ (by omega), wr_c (by decide)]) n (Nat.le_refl n)], fun j hj => by rw [l6 j hj, wr_c (by decide)]⟩, fun z => by cases z⟩
          · rw [m1, m2, if_neg (show ¬ (0 : Int32) ≤ -1 by decide), if_neg (show ¬ false = true by decide)]
            exact ⟨false, C, D, rfl, rfl, FP.rf C, FQ.rf D, (fun z => by cases z), fun _ => h.pf⟩
  · have hm := nm_m1 ⟨u, hu.2⟩
    dsimp only at hm
    unfold fX2_readPart_B84 fX10_one_B171
    rw [if_neg hq, if_neg hq, hm, show wi 0 48 57 = false by decide, show wi (-1) 48 57 = false by decide, if_neg (show ¬ false = true by decide), if_neg (show ¬ false = true by decide), if_neg (show ¬ false = true by decide), if_neg (show ¬ (0 : Int32) = 33 by decide), if_neg (show ¬ (0 : Int32) = 40 by decide), h.1.1, h.2.1.1, if_pos (show nI T ≤ nI q from nI_le (by omega) (by omega)), if_neg (show ¬ (0 : Int32) ≤ -1 by decide), if_neg (show ¬ (-1 : Int32) = 33 by decide), if_neg (show ¬ (-1 : Int32) = 40 by decide)]
    exact ⟨false, C, D, rfl, rfl, FP.rf C, FQ.rf D, (fun z => by cases z), fun _ => h.pf⟩
