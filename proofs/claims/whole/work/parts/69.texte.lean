/-! PURE 40: text, the levels' loops. -/
def GOOD (u T o : Nat) (C' D' D : Mm) (q n up : Nat) : Prop := ∃ q' n', PR u T C' D' q' n' o ∧ n' + q ≤ q' + n ∧ q + up ≤ q' ∧ n ≤ n' ∧ dF D' n' = dF D n + up ∧ ∀ j, j < 2 * n → D' 5 j = D 5 j
def PT (u T o : Nat) (X Y : Option (Bool × Mm)) (C D : Mm) (q n up : Nat) : Prop := ∃ ok C' D', X = some (ok, C') ∧ Y = some (ok, D') ∧ FP C C' ∧ FQ D D' ∧ (ok = true → GOOD u T o C' D' D q n up) ∧ (ok = false → PF T C' D')
theorem PF.add {T : Nat} {C D : Mm} (h : PF T C D) (c : Int32) : ∃ x C', fX5_add 154 c C = some (x, C') ∧ PF T C' D ∧ FP C C' := by
  obtain ⟨a, ⟨q, b1, b2, b3⟩, ⟨m, c1, c2⟩⟩ := h
  have hcap := c154.2.1
  by_cases hm : m = 60
  · exact ⟨false, C, e_addF c154.1 c2 (by omega) c, ⟨a, ⟨q, b1, b2, b3⟩, ⟨m, c1, c2⟩⟩, FP.rf C⟩
  · have f1 : FP C (wr (wr C (154 + 1) m c) 154 1 (nI (m + 1))) := fun x _ x2 x3 => by rw [wr_c x2, wr_c x3]
    exact ⟨true, _, e_add c154.1 c2 (by omega) c, ⟨a.fr f1 (FQ.rf D), ⟨q, b1, by rw [wr_c (by decide), wr_c (by decide)]; exact b2, b3⟩, ⟨m + 1, by omega, wr_s⟩⟩, f1⟩
theorem lv_loop {u T o i : Nat} (hi : i < 5) (hi2 : i ≠ 2) {z1 : Int32 → Nat → Int32 → Mm → Option (Bool × Mm)} {z2 : Nat → Int32 → Mm → Option (Bool × Mm)} {z3 : Int32 → Nat → Int32 → Mm → Option (Bool × Mm)} {zM : Mm → Option (Bool × Mm)} {mL : Nat → Mm → Option (Bool × Mm)}
    (hop : ∀ (C D : Mm) (q n : Nat), PR u T C D q n o → PT u T o (z1 (nI (i + 1)) u (nI o) C) (zM D) C D q n 1)
    (hmL : ∀ (f : Nat) (C D : Mm) (q n : Nat), PR u T C D q n o → mL (f + 1) D = if jnS i (if q < T then D 1 (542 + q) else 0) = true then (bd (zM (wr D 0 5 (D 0 5 + 1))) fun r M7 => if r = true then (bd (fX10_lays 3 (if q < T then D 1 (542 + q) else 0) M7) fun _ M9 => mL f M9) else some (false, M7)) else some (true, D)) :
    ∀ (m f1 f2 v5 : Nat) (C D : Mm) (q n : Nat), m + 1 < f1 → m < f2 → T - q ≤ m → v5 < q → PR u T C D q n o → 1 ≤ dF D n → PT u T o (fX2_readLevel_L26 z1 z2 z3 (nI i) u (nI o) f1 (nI v5) 1 C) (mL f2 D) C D q n 0 := by
  intro m
  induction m with
  | zero =>
    intro f1 f2 v5 C D q n h1 h2 hm hv h hdp
    obtain ⟨g1, rfl⟩ : ∃ g, f1 = g + 1 := ⟨f1 - 1, by omega⟩
    obtain ⟨g2, rfl⟩ : ∃ g, f2 = g + 1 := ⟨f2 - 1, by omega⟩
    have h60 := h.1.2.1
    have hqT := h.2.1.2.2
    unfold fX2_readLevel_L26 fX2_readLevel_L26b fX2_readLevel_B99
    rw [if_neg (show ¬ (1 : Int32) = 0 by decide), if_neg (show ¬ (60 : Int32) ≤ nI v5 from nI_ge (b := 60) (by omega) (by omega)), e_joinL h hi (by omega), bd_s, hmL g2 C D q n h, if_neg (show ¬ q < T by omega), show jC i v5 0 = false by unfold jC; rw [if_neg hi2]; exact jn_0 i, jn_0, if_neg (by decide), if_neg (by decide)]
    exact ⟨true, C, D, rfl, rfl, FP.rf C, FQ.rf D, fun _ => ⟨q, n, h, by omega, by omega, by omega, rfl, fun _ _ => rfl⟩, fun z => by cases z⟩
  | succ m ih =>
    intro f1 f2 v5 C D q n h1 h2 hm hv h hdp
    obtain ⟨g1, rfl⟩ : ∃ g, f1 = g + 1 := ⟨f1 - 1, by omega⟩
    obtain ⟨g2, rfl⟩ : ∃ g, f2 = g + 1 := ⟨f2 - 1, by omega⟩
    have h60 := h.1.2.1
    have hqT := h.2.1.2.2
    have hnq := h.2.2.1.2.2
    unfold fX2_readLevel_L26 fX2_readLevel_L26b fX2_readLevel_B99
    rw [if_neg (show ¬ (1 : Int32) = 0 by decide), if_neg (show ¬ (60 : Int32) ≤ nI v5 from nI_ge (b := 60) (by omega) (by omega)), e_joinL h hi (by omega), bd_s, hmL g2 C D q n h, h.at, bd_s, lt_e, show nI i + 1 = nI (i + 1) from nI_1 i, show nI v5 + 1 = nI (v5 + 1) from nI_1 v5]
    have ejC : jC i v5 (if q < T then D 1 (542 + q) else 0) = jnS i (if q < T then D 1 (542 + q) else 0) := by unfold jC; rw [if_neg hi2]
    rw [ejC]
    by_cases hj : jnS i (if q < T then D 1 (542 + q) else 0) = true
    · rw [if_pos hj, if_pos hj]
      have hq : q < T := by
        rcases Nat.lt_or_ge q T with z | z
        · exact z
        · rw [if_neg (by omega), jn_0] at hj; exact absurd hj (by decide)
      have hsg := jn_sg hj
      generalize (if q < T then D 1 (542 + q) else 0) = b at hj hsg ⊢
      obtain ⟨a1, a2, a3⟩ := h.adv hq
      obtain ⟨ok, C1, D1, e1, e2, e3, e4, e5, e6⟩ := hop _ _ (q + 1) n a1
      rw [e1, e2, bd_s, bd_s]
      cases ok with
      | true =>
        obtain ⟨q1, n1, p1, p2, p3, p4, p5, p6⟩ := e5 rfl
        have ed : dF (wr D 0 5 (D 0 5 + 1)) n = dF D n := dF_cg (n := n) (fun k _ => by rw [wr_c (by decide)]) n (Nat.le_refl n)
        rw [ed] at p5
        obtain ⟨C2, D2, l1, l2, l3, l4, l5, l6, l7⟩ := p1.lay (by omega) (c := -b) (w := 3) (v := b) (Or.inr (Or.inr (Or.inr ⟨rfl, rfl, hsg⟩))) (Or.inr (Or.inr (Or.inr ⟨rfl, by omega, hsg⟩)))
        have ed2 : dF D2 (n1 + 1) = dF D n := by
          have : dF D2 n1 = dF D1 n1 := dF_cg (n := n1) (fun k hk => l6 _ (by omega)) n1 (Nat.le_refl n1)
          simp only [dF]
          rw [l7, if_neg (show ¬ ((3 : Int32) = 0 ∨ (3 : Int32) = 1) by decide), if_neg (show ¬ (3 : Int32) = 2 by decide), this]; omega
        rw [l1, bd_s, if_pos rfl, l2, bd_s, show bi true = 1 from rfl]
        obtain ⟨ok2, C3, D3, s1, s2, s3, s4, s5, s6⟩ := ih g1 g2 (v5 + 1) C2 D2 q1 (n1 + 1) (by omega) (by omega) (by omega) (by omega) l3 (by omega)
        refine ⟨ok2, C3, D3, s1, s2, ((a2.tr e3).tr l4).tr s3, ((a3.tr e4).tr l5).tr s4, fun z => ?_, s6⟩
        obtain ⟨q3, n3, t1, t2, t3, t4, t5, t6⟩ := s5 z
        exact ⟨q3, n3, t1, by omega, by omega, by omega, by rw [t5, ed2], fun j hj => by rw [t6 j (by omega), l6 j (by omega), p6 j hj, wr_c (by decide)]⟩
      | false =>
        have hpf := e6 rfl
        obtain ⟨x, C2, l1, l2, l3⟩ := hpf.add (-b)
        rw [l1, bd_s, if_neg (by decide), show bi false = 0 from rfl]
        obtain ⟨g3, rfl⟩ : ∃ g, g1 = g + 1 := ⟨g1 - 1, by omega⟩
        unfold fX2_readLevel_L26 fX2_readLevel_L26b fX2_readLevel_B99
        rw [if_pos (show (0 : Int32) = 0 from rfl)]
        exact ⟨false, C2, D1, rfl, rfl, (a2.tr e3).tr l3, a3.tr e4, (fun z => by cases z), fun _ => l2⟩
    · have hj' : jnS i (if q < T then D 1 (542 + q) else 0) = false := by simpa using hj
      rw [hj', if_neg (by decide), if_neg (by decide)]
      exact ⟨true, C, D, rfl, rfl, FP.rf C, FQ.rf D, fun _ => ⟨q, n, h, by omega, by omega, by omega, rfl, fun _ _ => rfl⟩, fun z => by cases z⟩
