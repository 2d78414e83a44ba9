/-! PURE 42: text, the level that compares. -/
theorem jn2_look {T q : Nat} {D : Mm} {X : Option (Bool × Mm)} {Y : Int32 → Option (Bool × Mm)} : (if (if q < T then D 1 (542 + q) else -1) = (60 : Int32) then Y (if q < T then D 1 (542 + q) else -1) else if (if q < T then D 1 (542 + q) else -1) = (61 : Int32) then Y (if q < T then D 1 (542 + q) else -1) else if (if q < T then D 1 (542 + q) else -1) = (62 : Int32) then Y (if q < T then D 1 (542 + q) else -1) else X) = if jnS 2 (if q < T then D 1 (542 + q) else 0) = true then Y (if q < T then D 1 (542 + q) else 0) else X := by
  by_cases hq : q < T
  · rw [if_pos hq, if_pos hq]
    generalize D 1 (542 + q) = b
    by_cases e1 : b = 60
    · subst e1; rfl
    by_cases e2 : b = 61
    · subst e2; rfl
    by_cases e3 : b = 62
    · subst e3; rfl
    rw [if_neg e1, if_neg e2, if_neg e3, if_neg]
    show ¬ (decide (b = 60) || decide (b = 61) || decide (b = 62)) = true
    simp [e1, e2, e3]
  · rw [if_neg hq, if_neg hq, jn_0]; rfl
theorem lv_2 {u T o : Nat} {z1 : Int32 → Nat → Int32 → Mm → Option (Bool × Mm)} {z2 : Nat → Int32 → Mm → Option (Bool × Mm)} {z3 : Int32 → Nat → Int32 → Mm → Option (Bool × Mm)} {y1 y2 y3 y4 y5 y6 : Mm → Option (Bool × Mm)}
    (hop : ∀ (C D : Mm) (q n : Nat), PR u T C D q n o → PT u T o (z1 (nI 3) u (nI o) C) (y4 D) C D q n 1)
    {C D : Mm} {q n : Nat} (h : PR u T C D q n o) : PT u T o (fX2_readLevel_b z1 z2 z3 (nI 2) u (nI o) C) (fX10_compared_b y1 y2 y3 y4 y5 y6 D) C D q n 1 := by
  have hFU := FU_big
  have h60 := h.1.2.1
  obtain ⟨g, hg⟩ : ∃ g, FU = g + 1 + 1 := ⟨FU - 2, by omega⟩
  obtain ⟨ok, C1, D1, e1, e2, e3, e4, e5, e6⟩ := hop C D q n h
  unfold fX2_readLevel_b fX10_compared_b
  rw [if_pos (show nI 2 < (5 : Int32) by decide), show nI 2 + 1 = nI 3 from nI_1 2, e1, e2, bd_s, bd_s, hg]
  have stop : ∀ (C : Mm) (v : Int32) (f : Nat), fX2_readLevel_L26 z1 z2 z3 (nI 2) u (nI o) (f + 1) v 0 C = some (false, C) := fun C v f => by
    unfold fX2_readLevel_L26 fX2_readLevel_L26b fX2_readLevel_B99
    rw [if_pos (show (0 : Int32) = 0 from rfl)]; rfl
  cases ok with
  | false =>
    rw [show bi false = 0 from rfl, stop, if_neg (by decide)]
    exact ⟨false, C1, D1, rfl, rfl, e3, e4, (fun z => by cases z), fun _ => e6 rfl⟩
  | true =>
    obtain ⟨q1, n1, p1, p2, p3, p4, p5, p6⟩ := e5 rfl
    have hq1T := p1.2.1.2.2
    have hjl := jn2_look (T := T) (q := q1) (D := D1) (X := some (true, D1)) (Y := fun b => fX10_compared_B34 y1 y2 y3 y4 y5 y6 b D1)
    rw [show bi true = 1 from rfl, if_pos rfl, p1.look, bd_s, hjl]
    rw [show fX2_readLevel_L26 z1 z2 z3 (nI 2) u (nI o) (g + 1 + 1) 0 1 C1 = fX2_readLevel_L26b z1 z2 z3 (nI 2) u (nI o) (fX2_readLevel_L26 z1 z2 z3 (nI 2) u (nI o) (g + 1)) (nI 0) 1 C1 from rfl]
    unfold fX2_readLevel_L26b fX2_readLevel_B99
    rw [if_neg (show ¬ (1 : Int32) = 0 by decide), if_neg (show ¬ (60 : Int32) ≤ nI 0 by decide), e_joinL p1 (by omega) (by omega), bd_s, p1.at, bd_s, lt_e, show nI 2 + 1 = nI 3 from nI_1 2, show nI 0 + 1 = nI 1 from nI_1 0]
    have ejC : jC 2 0 (if q1 < T then D1 1 (542 + q1) else 0) = jnS 2 (if q1 < T then D1 1 (542 + q1) else 0) := by unfold jC; rw [if_pos rfl]; rfl
    rw [ejC]
    by_cases hj : jnS 2 (if q1 < T then D1 1 (542 + q1) else 0) = true
    · rw [if_pos hj, if_pos hj]
      have hq : q1 < T := by
        rcases Nat.lt_or_ge q1 T with z | z
        · exact z
        · rw [if_neg (by omega), jn_0] at hj; exact absurd hj (by decide)
      have hsg := jn_sg hj
      generalize (if q1 < T then D1 1 (542 + q1) else 0) = b at hj hsg ⊢
      obtain ⟨a1, a2, a3⟩ := p1.adv hq
      obtain ⟨ok, C2, D2, f1, f2, f3, f4, f5, f6⟩ := hop _ _ (q1 + 1) n1 a1
      unfold fX10_compared_B34
      rw [f1, lt_e, f2, bd_s, bd_s]
      cases ok with
      | true =>
        obtain ⟨q2, n2, r1, r2, r3, r4, r5, r6⟩ := f5 rfl
        have ed : dF (wr D1 0 5 (D1 0 5 + 1)) n1 = dF D1 n1 := dF_cg (n := n1) (fun k _ => by rw [wr_c (by decide)]) n1 (Nat.le_refl n1)
        rw [ed] at r5
        obtain ⟨C3, D3, l1, l2, l3, l4, l5, l6, l7⟩ := r1.lay (by have := p1.2.2.1.2.2; omega) (c := -b) (w := 3) (v := b) (Or.inr (Or.inr (Or.inr ⟨rfl, rfl, hsg⟩))) (Or.inr (Or.inr (Or.inr ⟨rfl, by omega, hsg⟩)))
        have ed2 : dF D3 (n2 + 1) = dF D1 n1 := by
          have : dF D3 n2 = dF D2 n2 := dF_cg (n := n2) (fun k hk => l6 _ (by omega)) n2 (Nat.le_refl n2)
          simp only [dF]
          rw [l7, if_neg (show ¬ ((3 : Int32) = 0 ∨ (3 : Int32) = 1) by decide), if_neg (show ¬ (3 : Int32) = 2 by decide), this]; omega
        rw [l1, bd_s, if_pos rfl, l2, bd_s, show bi true = 1 from rfl]
        have hlast : fX2_readLevel_L26 z1 z2 z3 (nI 2) u (nI o) (g + 1) (nI 1) 1 C3 = some (true, C3) := by
          unfold fX2_readLevel_L26 fX2_readLevel_L26b fX2_readLevel_B99
          rw [if_neg (show ¬ (1 : Int32) = 0 by decide), if_neg (show ¬ (60 : Int32) ≤ nI 1 by decide), e_joinL l3 (by omega) (by omega), bd_s]
          unfold jC
          rw [if_pos rfl]; rfl
        rw [hlast]
        exact ⟨true, C3, D3, rfl, rfl, ((e3.tr a2).tr f3).tr l4, ((e4.tr a3).tr f4).tr l5, fun _ => ⟨q2, n2 + 1, l3, by omega, by omega, by omega, by omega, fun j hj => by rw [l6 j (by omega), r6 j (by omega), wr_c (by decide), p6 j hj]⟩, fun z => by cases z⟩
      | false =>
        obtain ⟨x, C3, l1, l2, l3⟩ := (f6 rfl).add (-b)
        rw [l1, bd_s, if_neg (by decide), show bi false = 0 from rfl, stop]
        exact ⟨false, C3, D2, rfl, rfl, ((e3.tr a2).tr f3).tr l3, (e4.tr a3).tr f4, (fun z => by cases z), fun _ => l2⟩
    · have hj' : jnS 2 (if q1 < T then D1 1 (542 + q1) else 0) = false := by simpa using hj
      rw [hj', if_neg (by decide), if_neg (by decide)]
      exact ⟨true, C1, D1, rfl, rfl, e3, e4, fun _ => ⟨q1, n1, p1, by omega, by omega, by omega, p5, p6⟩, fun z => by cases z⟩
