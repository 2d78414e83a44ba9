/-! PURE 10: lay, sort. -/
theorem neg1_ne {p : Nat} (hp : p < 4) : ¬ (-1 : Int32) = nI p := fun e => by
  have h1 : ¬ nI p < 0 := nI_pos (by omega)
  rw [← e] at h1; exact h1 (by decide)
theorem e_letterIn {C : Mm} {p n j l : Nat} (hp : p < 4) (hn : C (29 + 2 * p) 1 = nI n) (hn8 : n ≤ 8) (hj : j < n) (hl : C (30 + 2 * p) j = nI l) (hl24 : l < 24) : fX7_letterIn (nI p) (nI j) C = some (4 + 1 * l, C) := by
  unfold fX7_letterIn
  have hcap : aN layC (29 + 2 * p + 1) = 8 := by
    have := a_pag p hp
    rw [show 30 + 2 * p = 29 + 2 * p + 1 by omega] at this; exact this
  rw [inb_nI hp (by omega), gd_t, ix_nI (by omega), c_pag p hp, gd_t, e_at (n := n) (c_pag p hp) hn (by omega) (by omega), bd_s, if_pos hj, show 29 + 2 * p + 1 = 30 + 2 * p by omega, hl, e_hold, bd_s]
  have e : hd (nI l) 0 23 = nI l := by
    have := hd_nI (a := l) (hi := 23) (by omega) (by omega)
    rw [Nat.min_eq_left (by omega)] at this; exact this
  rw [e, inb_nI hl24 (by omega), gd_t, ix_nI (by omega)]
theorem SI.pag {s : Sx} (h : SI s) {p : Nat} (hp : p < 4) : POK s p := h.2.2.2.1.1 p hp
theorem r_lay {C C' D D' : Mm} {p l n : Nat} (h : Rel C D) (hp : p < 4) (hl : l < nL (D 1)) (hnp : D 1 (12 + 7 * l + 5) = -1) (hn : nP (D 1) p = n) (hn8 : n < 8) (eC : C' = wr (wr (wr C (30 + 2 * p) n (nI l)) (29 + 2 * p) 1 (nI (n + 1))) (4 + 1 * l) 5 (nI p)) (eD : D' = wr (wr (wr D 1 (182 + 10 * p + n) (nI l)) 1 (180 + 10 * p) (nI (n + 1))) 1 (12 + 7 * l + 5) (nI p)) : Rel C' D' := by
  obtain ⟨a, b, c, d, e, f, g7⟩ := id h.si
  obtain ⟨r1, r2, r3, r4, r5, r6, r7, r8, r9⟩ := id h.rs
  obtain ⟨z1, z2, z3, z4, z5, z6, z7⟩ := h.si.sz
  have hE : ∀ i, i ≠ 182 + 10 * p + n → i ≠ 180 + 10 * p → i ≠ 12 + 7 * l + 5 → D' 1 i = D 1 i := fun i h1 h2 h3 => by
    rw [eD, wr_at, if_neg (by omega), wr_at, if_neg (by omega), wr_at, if_neg (by omega)]
  have d1 : D' 1 (182 + 10 * p + n) = nI l := by rw [eD, wr_at, if_neg (by omega), wr_at, if_neg (by omega), wr_s]
  have d2 : D' 1 (180 + 10 * p) = nI (n + 1) := by rw [eD, wr_at, if_neg (by omega), wr_s]
  have d3 : D' 1 (12 + 7 * l + 5) = nI p := by rw [eD, wr_s]
  have hCC : ∀ k, k ≠ 30 + 2 * p → k ≠ 29 + 2 * p → k ≠ 4 + 1 * l → C' k = C k := fun k h1 h2 h3 => by rw [eC, wr_c h3, wr_c h2, wr_c h1]
  have g0 := hE 0 (by omega) (by omega) (by omega)
  have g1 := hE 1 (by omega) (by omega) (by omega)
  have g5 := hE 5 (by omega) (by omega) (by omega)
  have g6 := hE 6 (by omega) (by omega) (by omega)
  have eL : nL (D' 1) = nL (D 1) := by unfold nL; rw [g0]
  have ePp : nP (D' 1) p = n + 1 := by unfold nP; rw [d2, ix_nI (by omega)]
  have ePq : ∀ q, q < 4 → q ≠ p → nP (D' 1) q = nP (D 1) q := fun q hq hne => by unfold nP; rw [hE _ (by omega) (by omega) (by omega)]
  have hmf : MF D D' := by rw [eD]; exact (MF_1.tr MF_1).tr MF_1
  have hcf : CF C C' := by rw [eC]; exact ((CF_lo (by omega)).tr (CF_lo (by omega))).tr (CF_lo (by omega))
  -- l stands in no page
  have hno : ∀ q j, q < 4 → j < nP (D 1) q → ¬ D 1 (182 + 10 * q + j) = nI l := fun q j hq hj he => by
    obtain ⟨l2, b1, b2, b3⟩ := (d.1 q hq).2.2.1 j hj
    rw [b2, eq_nI (by omega) (by omega)] at he
    subst he
    rw [hnp] at b3
    exact neg1_ne hq b3
  refine Rel_now h ⟨SIa_congr g0.symm g1.symm g5.symm g6.symm a, kB (hE 2 (by omega) (by omega) (by omega)) (hE 3 (by omega) (by omega) (by omega)) (fun i h1 h2 => hE i (by omega) (by omega) (by omega)) b, fun i hi => ?_, ⟨fun q hq => ?_, fun i q hi hq he => ?_⟩, kE g1 z2 (fun i h1 h2 => hE i (by omega) (by omega) (by omega)) e, kF (fun i h1 h2 => hE i (by omega) (by omega) (by omega)) f, kG g5 z3 (fun i h1 h2 => hE i (by omega) (by omega) (by omega)) g7⟩ ⟨?_, kk (hCC 1 (by omega) (by omega) (by omega)) (fun i h1 h2 => hE i (by omega) (by omega) (by omega)) r2, kh (hCC 2 (by omega) (by omega) (by omega)) (fun p hp => hE _ (by omega) (by omega) (by omega)) r3, fun i f hi hf => ?_, fun q hq => ?_, kw g1 z2 z6 (fun k h1 h2 => hCC k (by omega) (by omega) (by omega)) (fun i h1 h2 => hE i (by omega) (by omega) (by omega)) r6, kt z7 (fun k h1 => hCC k (by omega) (by omega) (by omega)) (fun i h1 h2 => hE i (by omega) (by omega) (by omega)) r7, ka g5 z3 (hCC 64 (by omega) (by omega) (by omega)) (hCC 65 (by omega) (by omega) (by omega)) (fun i h1 h2 => hE i (by omega) (by omega) (by omega)) r8, kq g6 z4 (hCC 66 (by omega) (by omega) (by omega)) (hCC 67 (by omega) (by omega) (by omega)) (fun i h1 h2 => hE i (by omega) (by omega) (by omega)) r9⟩ hcf hmf
  · rw [eL] at hi
    by_cases ei : i = l
    · subst ei
      obtain ⟨x0, x1, x2, x3, x4, x5, x6⟩ := c i hi
      refine ⟨?_, ?_, ?_, ?_, ?_, Or.inr ⟨p, hp, d3⟩, ?_⟩
      · rw [hE _ (by omega) (by omega) (by omega)]; exact x0
      · rw [hE _ (by omega) (by omega) (by omega)]; exact x1
      · rw [hE _ (by omega) (by omega) (by omega)]; exact x2
      · rw [hE _ (by omega) (by omega) (by omega)]; exact x3
      · rw [hE _ (by omega) (by omega) (by omega)]; exact x4
      · rw [hE _ (by omega) (by omega) (by omega)]; exact x6
    · exact LOK_congr (fun f hf => (hE _ (by omega) (by omega) (by omega)).symm) (c i hi)
  · obtain ⟨a1, a2, a3, a4⟩ := d.1 q hq
    by_cases eq : q = p
    · subst eq
      refine ⟨by rw [ePp, d2], by rw [ePp]; omega, fun j hj => ?_, fun i j hi hj he => ?_⟩
      · rw [ePp] at hj
        by_cases ej : j = n
        · subst ej
          exact ⟨l, by rw [eL]; exact hl, d1, d3⟩
        · obtain ⟨l2, b1, b2, b3⟩ := a3 j (by omega)
          have hne : l2 ≠ l := fun e2 => by subst e2; exact hno q j hq (by omega) b2
          exact ⟨l2, by rw [eL]; exact b1, by rw [hE _ (by omega) (by omega) (by omega)]; exact b2, by rw [hE _ (by omega) (by omega) (by omega)]; exact b3⟩
      · rw [ePp] at hi hj
        by_cases ei : i = n
        · by_cases ej : j = n
          · omega
          · exfalso
            rw [ei, d1, hE (182 + 10 * q + j) (by omega) (by omega) (by omega)] at he
            exact hno q j hq (by omega) he.symm
        · by_cases ej : j = n
          · exfalso
            rw [ej, d1, hE (182 + 10 * q + i) (by omega) (by omega) (by omega)] at he
            exact hno q i hq (by omega) he
          · rw [hE _ (by omega) (by omega) (by omega), hE _ (by omega) (by omega) (by omega)] at he
            exact a4 i j (by omega) (by omega) he
    · have eQ := ePq q hq eq
      refine ⟨by rw [eQ, hE _ (by omega) (by omega) (by omega)]; exact a1, by rw [eQ]; exact a2, fun j hj => ?_, fun i j hi hj he => ?_⟩
      · rw [eQ] at hj
        obtain ⟨l2, b1, b2, b3⟩ := a3 j hj
        have hne : l2 ≠ l := fun e2 => by subst e2; exact hno q j hq hj b2
        exact ⟨l2, by rw [eL]; exact b1, by rw [hE _ (by omega) (by omega) (by omega)]; exact b2, by rw [hE _ (by omega) (by omega) (by omega)]; exact b3⟩
      · rw [eQ] at hi hj
        rw [hE _ (by omega) (by omega) (by omega), hE _ (by omega) (by omega) (by omega)] at he
        exact a4 i j hi hj he
  · rw [eL] at hi
    by_cases ei : i = l
    · subst ei
      rw [d3, eq_nI (by omega) (by omega)] at he
      subst he
      exact ⟨n, by rw [ePp]; omega, d1⟩
    · rw [hE _ (by omega) (by omega) (by omega)] at he
      obtain ⟨j, b1, b2⟩ := d.2 i q hi hq he
      have h8 := (d.1 q hq).2.1
      by_cases eq : q = p
      · subst eq
        exact ⟨j, by rw [ePp]; omega, by rw [hE _ (by omega) (by omega) (by omega)]; exact b2⟩
      · exact ⟨j, by rw [ePq q hq eq]; exact b1, by rw [hE _ (by omega) (by omega) (by omega)]; exact b2⟩
  · unfold RSc at *
    rw [hCC 0 (by omega) (by omega) (by omega), hE 2 (by omega) (by omega) (by omega), hE 3 (by omega) (by omega) (by omega), hE 4 (by omega) (by omega) (by omega), hE 7 (by omega) (by omega) (by omega), g0, g1]; exact r1
  · rw [eL] at hi
    rw [show 0 + 4 + i = 4 + 1 * i by omega]
    by_cases ei : i = l ∧ f = 5
    · obtain ⟨rfl, rfl⟩ := ei
      rw [d3, eC, wr_s]
    · rw [hE _ (by omega) (by omega) (by omega), eC, wr_at, if_neg (by omega), wr_c (by omega), wr_c (by omega)]
      exact h.rs.let hi hf
  · have h5 := r5 q hq
    by_cases eq : q = p
    · subst eq
      rw [show 0 + 29 + 2 * q = 29 + 2 * q by omega, show 0 + 30 + 2 * q = 30 + 2 * q by omega] at *
      refine ⟨by rw [d2, eC, wr_c (by omega), wr_s], fun j hj => ?_⟩
      rw [ePp] at hj
      rw [eC, wr_c (by omega), wr_c (by omega)]
      by_cases ej : j = n
      · subst ej; rw [d1, wr_s]
      · rw [wr_j ej, hE _ (by omega) (by omega) (by omega)]
        exact h5.2 j (by omega)
    · have h8 := (d.1 q hq).2.1
      rw [hCC _ (by omega) (by omega) (by omega), hCC (0 + 30 + 2 * q) (by omega) (by omega) (by omega), hE _ (by omega) (by omega) (by omega), ePq q hq eq]
      exact ⟨h5.1, fun j hj => by rw [hE _ (by omega) (by omega) (by omega)]; exact h5.2 j hj⟩
theorem op_lay {C D : Mm} (h : Rel C D) (a b : Int32) : Op (fX9_lay a b C) (fX10_lay a b D) := by
  have err : Op (fX9_lay_B18 C) (fX10_lay_B15 D) := by
    unfold fX9_lay_B18 fX10_lay_B15
    rw [e_ref1, e_err1]
    exact op_err h (by decide) (by decide)
  unfold fX9_lay fX10_lay
  simp only [lt_e, bd_s, gd_t, e_isWithin, e_in, e_hold, e_held, e_isPageC, e_isPage, eq_self, if_true, if_false, Bool.false_eq_true, bi_t, bi_f, ix_lit0, ix_lit1, ix_lit2, ix_lit3, ix_lit4, ix_lit5, ix_lit6, ix_lit7, e_hasLetter, e_isLetter]
  by_cases hw : wi a 0 3 = true
  · obtain ⟨p, hp, rfl⟩ := wi3 hw
    simp only [hw, if_true]
    rcases two_let h b with ⟨l, hl, hl24, rfl, w1, w2⟩ | ⟨w1, w2⟩
    · have hix : ix (nI l) = l := ix_nI (by omega)
      have hixp : ix (nI p) = p := ix_nI (by omega)
      have hlok := h.si.2.2.1 l hl
      have hpg := h.rs.let hl (f := 5) (by omega)
      simp only [w1, w2, if_true, inb_nI (n := l) (N := 24) hl24 (by omega), gd_t, hix, hixp, c_let l hl24, e_its5 hl24, bd_s, hpg]
      rcases hlok.2.2.2.2.2.1 with hq | ⟨q, hq4, hq⟩
      · have hpok := h.si.pag hp
        have hcap : aN layC (29 + 2 * p + 1) = 8 := by
          have := a_pag p hp
          rw [show 30 + 2 * p = 29 + 2 * p + 1 by omega] at this; exact this
        have eC : C (29 + 2 * p) 1 = nI (nP (D 1) p) := by
          have := (h.rs.2.2.2.2.1 p hp).1
          rw [show 0 + 29 + 2 * p = 29 + 2 * p by omega] at this
          exact this.trans hpok.1
        simp only [hq, show ((-1 : Int32) < 0) = True from eq_true (by decide), if_true, inb_nI (n := p) (N := 4) hp (by omega), gd_t, c_pag p hp, e_of0 hp, bd_s]
        by_cases hn : nP (D 1) p = 8
        · rw [e_addF (c_pag p hp) eC (by omega), if_pos (by rw [hpok.1, hn]; rfl)]
          simp only [bd_s, if_false, Bool.false_eq_true, e_ref4, e_err4]
          exact op_err h (by decide) (by decide)
        · have hn8 := hpok.2.1
          rw [e_add (c_pag p hp) eC (by omega), if_neg (by rw [hpok.1, show (8 : Int32) = nI 8 from rfl, eq_nI (by omega) (by omega)]; exact hn)]
          have e1 : (((180 : Int32) + ((10 : Int32) * nI p)) + (2 : Int32)) + D 1 (180 + 10 * p) = nI (182 + 10 * p + nP (D 1) p) := by
            rw [hpok.1]
            have := x_pag p 2
            rw [show ((180 : Int32) + ((10 : Int32) * nI p)) + (2 : Int32) = nI (180 + 10 * p + 2) from this, nI_add, show 180 + 10 * p + 2 + nP (D 1) p = 182 + 10 * p + nP (D 1) p by omega]
          have e2 : ((180 : Int32) + ((10 : Int32) * nI p)) + (0 : Int32) = nI (180 + 10 * p) := x_pag p 0
          have e3 : D 1 (180 + 10 * p) + 1 = nI (nP (D 1) p + 1) := by rw [hpok.1, nI_1]
          rw [e1, e2, e3]
          simp only [bd_s, if_true, lt_e, inb_nI (n := 182 + 10 * p + nP (D 1) p) (N := 626) (by omega) (by omega), inb_nI (n := 180 + 10 * p) (N := 626) (by omega) (by omega), gd_t, ix_nI (n := 182 + 10 * p + nP (D 1) p) (by omega), ix_nI (n := 180 + 10 * p) (by omega), e_lays5 hl24]
          refine ⟨_, _, _, rfl, ?_, r_lay h hp hl hq rfl (by omega) (by rw [show 29 + 2 * p + 1 = 30 + 2 * p by omega]) rfl⟩
          rw [show 29 + 2 * p + 1 = 30 + 2 * p by omega, wr_c (by omega), wr_s]
      · simp only [hq, show (nI q < 0) = False from eq_false (nI_pos (by omega)), show (nI q = -1) = False from eq_false (fun e => neg1_ne hq4 e.symm), if_false, e_ref3, e_err3, bd_s]
        exact op_err h (by decide) (by decide)
    · simp only [w1, w2, if_false, Bool.false_eq_true]
      exact err
  · simp only [hw, if_false, Bool.false_eq_true]
    exact err
theorem sort_loop {C D : Mm} (h : Rel C D) {p n : Nat} (hp : p < 4) (hn : nP (D 1) p = n) : ∀ (m f1 f2 j : Nat) (Cj Dj : Mm), m < f1 → m < f2 → j + m = n → RS 0 Cj (Dj 1) → CF C Cj → MF D Dj → (∀ i, (∀ q, q < j → i ≠ 12 + 7 * ix (D 1 (182 + 10 * p + q)) + 5) → Dj 1 i = D 1 i) → (∀ q, q < j → Dj 1 (12 + 7 * ix (D 1 (182 + 10 * p + q)) + 5) = -1) →
    ∃ Cn Dn, fX7_emptyPage_L12 (nI n) (nI p) f1 (nI j) Cj = some (nI n, wr Cn (29 + 2 * p) 1 0) ∧ fX10_sort_L22 (nI n) (nI p) f2 (nI j) Dj = some (nI n, wr Dn 1 (180 + 10 * p) 0) ∧ RS 0 Cn (Dn 1) ∧ CF C Cn ∧ MF D Dn ∧ (∀ i, (∀ q, q < n → i ≠ 12 + 7 * ix (D 1 (182 + 10 * p + q)) + 5) → Dn 1 i = D 1 i) ∧ (∀ q, q < n → Dn 1 (12 + 7 * ix (D 1 (182 + 10 * p + q)) + 5) = -1) := by
  have hpok := h.si.pag hp
  have hn8 : n ≤ 8 := by rw [← hn]; exact hpok.2.1
  have hL := h.si.l24
  intro m
  induction m with
  | zero =>
    intro f1 f2 j Cj Dj h1 h2 hj hrs hcf hmf hE hN
    obtain ⟨g1, rfl⟩ : ∃ g, f1 = g + 1 := ⟨f1 - 1, by omega⟩
    obtain ⟨g2, rfl⟩ : ∃ g, f2 = g + 1 := ⟨f2 - 1, by omega⟩
    have hjn : j = n := by omega
    subst hjn
    have hle : nI j ≤ nI j := nI_le (Nat.le_refl j) (by omega)
    refine ⟨Cj, Dj, ?_, ?_, hrs, hcf, hmf, hE, hN⟩
    · unfold fX7_emptyPage_L12 fX7_emptyPage_L12b fX7_emptyPage_B33
      rw [if_pos hle, inb_nI hp (by omega), gd_t, ix_nI (by omega), c_pag p hp, gd_t, e_clear (c_pag p hp)]
      rfl
    · unfold fX10_sort_L22 fX10_sort_L22b fX10_sort_B47
      rw [if_pos hle, show ((180 : Int32) + ((10 : Int32) * nI p)) + (0 : Int32) = nI (180 + 10 * p) from x_pag p 0, inb_nI (by omega) (by omega), ix_nI (by omega)]
      rfl
  | succ m ih =>
    intro f1 f2 j Cj Dj h1 h2 hj hrs hcf hmf hE hN
    obtain ⟨g1, rfl⟩ : ∃ g, f1 = g + 1 := ⟨f1 - 1, by omega⟩
    obtain ⟨g2, rfl⟩ : ∃ g, f2 = g + 1 := ⟨f2 - 1, by omega⟩
    have hle : ¬ nI n ≤ nI j := nI_ge (by omega) (by omega)
    obtain ⟨l, b1, b2, b3⟩ := hpok.2.2.1 j (by omega)
    have hlx : ix (D 1 (182 + 10 * p + j)) = l := by rw [b2, ix_nI (by omega)]
    have hlq : ∀ q, q < j → ix (D 1 (182 + 10 * p + q)) < 24 := fun q hq => by
      obtain ⟨l2, x1, x2, x3⟩ := hpok.2.2.1 q (by omega)
      rw [x2, ix_nI (by omega)]; omega
    have ed : Dj 1 (182 + 10 * p + j) = nI l := by
      rw [hE _ (fun q hq e => by have := hlq q hq; omega)]; exact b2
    have e0 : Dj 1 (180 + 10 * p) = nI n := by
      rw [hE _ (fun q hq e => by have := hlq q hq; omega), hpok.1, hn]
    have eP : nP (Dj 1) p = n := by unfold nP; rw [e0, ix_nI (by omega)]
    have ec := hrs.2.2.2.2.1 p hp
    rw [show 0 + 29 + 2 * p = 29 + 2 * p by omega, show 0 + 30 + 2 * p = 30 + 2 * p by omega, eP] at ec
    have hz : SZ (Dj 1) := by
      obtain ⟨z1, z2, z3, z4, z5, z6, z7⟩ := h.si.sz
      have hx : ∀ i, (i < 12 ∨ 180 ≤ i) → Dj 1 i = D 1 i := fun i hi => hE i (fun q hq e => by have := hlq q hq; omega)
      refine ⟨by unfold nL at *; rw [hx 0 (by omega)]; exact z1, by unfold nW at *; rw [hx 1 (by omega)]; exact z2, by unfold nT at *; rw [hx 5 (by omega)]; exact z3, by unfold nQ at *; rw [hx 6 (by omega)]; exact z4, fun q hq => by unfold nP at *; rw [hx _ (by omega)]; exact z5 q hq, fun w hw => ?_, fun u hu => by unfold nX at *; rw [hx _ (by omega)]; exact z7 u hu⟩
      have hw2 : w < nW (D 1) := by unfold nW at *; rw [hx 1 (by omega)] at hw; exact hw
      unfold nV at *; rw [hx _ (by omega)]; exact z6 w hw2
    have hl24 : l < 24 := by omega
    unfold fX7_emptyPage_L12 fX10_sort_L22 fX7_emptyPage_L12b fX10_sort_L22b
    rw [if_neg hle, if_neg hle, e_letterIn hp (ec.1.trans e0) hn8 (by omega) ((ec.2 j (by omega)).trans ed) hl24, bd_s, c_let l hl24, gd_t, lt_e, e_ofR hp (by omega), bd_s, ed, e_lays5 hl24, bd_s, show nI j + 1 = nI (j + 1) from nI_1 j]
    refine ih g1 g2 (j + 1) _ _ (by omega) (by omega) (by omega) ?_ (hcf.tr (CF_lo (by omega))) (hmf.tr MF_1) (fun i hi => ?_) (fun q hq => ?_)
    · rw [wr_k]
      exact RS_letU (f := 5) hz hrs hl24 (by omega)
    · rw [wr_at, if_neg (by
        have := hi j (by omega)
        rw [hlx] at this
        omega)]
      exact hE i (fun q hq => hi q (by omega))
    · by_cases e : ix (D 1 (182 + 10 * p + q)) = l
      · rw [e, wr_s]
      · rw [wr_at, if_neg (by omega)]
        by_cases eq : q = j
        · subst eq; exact absurd hlx e
        · exact hN q (by omega)
theorem op_sort {C D : Mm} (h : Rel C D) (a : Int32) : Op (fX9_sort a C) (fX10_sort a D) := by
  unfold fX9_sort fX10_sort fX9_sort_B24
  simp only [lt_e, bd_s, gd_t, e_isWithin, e_in, e_hold, e_held, e_isPageC, e_isPage, eq_self, if_true, if_false, Bool.false_eq_true, bi_t, bi_f, ix_lit0, ix_lit1, ix_lit2, ix_lit3, ix_lit4, ix_lit5, ix_lit6, ix_lit7]
  by_cases hw : wi a 0 3 = true
  · obtain ⟨p, hp, rfl⟩ := wi3 hw
    have hpok := h.si.pag hp
    have hL := h.si.l24
    obtain ⟨a0, b0, c0, d0, e0, f0, g0⟩ := id h.si
    obtain ⟨z1, z2, z3, z4, z5, z6, z7⟩ := h.si.sz
    have ec := (h.rs.2.2.2.2.1 p hp).1
    rw [show 0 + 29 + 2 * p = 29 + 2 * p by omega] at ec
    have hn8 := hpok.2.1
    have hFU := FU_big
    simp only [hw, if_true, e_of0 hp, bd_s]
    unfold fX7_emptyPage
    simp only [inb_nI (n := p) (N := 4) hp (by omega), gd_t, ix_nI (n := p) (by omega), c_pag p hp, lt_e, ec]
    have ei : D 1 (180 + 10 * p) = nI (nP (D 1) p) := hpok.1
    obtain ⟨Cn, Dn, s1, s2, s3, s4, s5, s6, s7⟩ := sort_loop h hp rfl (nP (D 1) p) FU FU 0 C D (by omega) (by omega) (by omega) h.rs (CF.rf C) (MF.rf D) (fun i _ => rfl) (fun q hq => by omega)
    rw [ei]
    rw [show nI 0 = (0 : Int32) from rfl] at s1 s2
    rw [s1, s2]
    refine ⟨_, _, _, rfl, rfl, ?_⟩
    generalize hn : nP (D 1) p = n at *
    -- letters of the page
    have hlq : ∀ q, q < n → ∃ l, l < nL (D 1) ∧ D 1 (182 + 10 * p + q) = nI l ∧ ix (D 1 (182 + 10 * p + q)) = l ∧ D 1 (12 + 7 * l + 5) = nI p := fun q hq => by
      obtain ⟨l, x1, x2, x3⟩ := hpok.2.2.1 q (by omega)
      exact ⟨l, x1, x2, by rw [x2, ix_nI (by omega)], x3⟩
    have hx : ∀ i, (i < 12 ∨ 180 ≤ i ∨ (12 ≤ i ∧ i < 180 ∧ (i - 12) % 7 ≠ 5)) → Dn 1 i = D 1 i := fun i hi => s6 i (fun q hq e => by
      obtain ⟨l, x1, x2, x3, x4⟩ := hlq q hq
      rw [x3] at e
      omega)
    have hin : ∀ l, l < nL (D 1) → D 1 (12 + 7 * l + 5) = nI p → Dn 1 (12 + 7 * l + 5) = -1 := fun l hl he => by
      obtain ⟨j, b1, b2⟩ := d0.2 l p hl hp he
      have hj : j < n := by omega
      have := s7 j hj
      rw [b2, ix_nI (by omega)] at this
      exact this
    have hout : ∀ l, l < nL (D 1) → ¬ D 1 (12 + 7 * l + 5) = nI p → Dn 1 (12 + 7 * l + 5) = D 1 (12 + 7 * l + 5) := fun l hl he => s6 _ (fun q hq e => by
      obtain ⟨l2, x1, x2, x3, x4⟩ := hlq q hq
      rw [x3] at e
      have : l = l2 := by omega
      subst this
      exact he x4)
    have hD : ∀ i, i ≠ 180 + 10 * p → wr Dn 1 (180 + 10 * p) 0 1 i = Dn 1 i := fun i hi => wr_j hi
    have hD0 : wr Dn 1 (180 + 10 * p) 0 1 (180 + 10 * p) = 0 := wr_s
    generalize hDD : wr Dn 1 (180 + 10 * p) 0 = D' at *
    have g0' : D' 1 0 = D 1 0 := by rw [hD 0 (by omega), hx 0 (by omega)]
    have g1' : D' 1 1 = D 1 1 := by rw [hD 1 (by omega), hx 1 (by omega)]
    have g5' : D' 1 5 = D 1 5 := by rw [hD 5 (by omega), hx 5 (by omega)]
    have g6' : D' 1 6 = D 1 6 := by rw [hD 6 (by omega), hx 6 (by omega)]
    have eL : nL (D' 1) = nL (D 1) := by unfold nL; rw [g0']
    have eLn : nL (Dn 1) = nL (D 1) := by unfold nL; rw [hx 0 (by omega)]
    have ePp : nP (D' 1) p = 0 := by unfold nP; rw [hD0]; decide
    have ePq : ∀ q, q < 4 → q ≠ p → nP (D' 1) q = nP (D 1) q := fun q hq hne => by unfold nP; rw [hD _ (by omega), hx _ (by omega)]
    have ePn : ∀ q, q < 4 → nP (Dn 1) q = nP (D 1) q := fun q hq => by unfold nP; rw [hx _ (by omega)]
    have hrange : ∀ i, (i < 12 ∨ 220 ≤ i) → D' 1 i = D 1 i := fun i hi => by rw [hD i (by omega), hx i (by omega)]
    refine Rel_now h ⟨SIa_congr g0'.symm g1'.symm g5'.symm g6'.symm a0, kB (hrange 2 (by omega)) (hrange 3 (by omega)) (fun i h1 h2 => hrange i (by omega)) b0, fun i hi => ?_, ⟨fun q hq => ?_, fun i q hi hq he => ?_⟩, kE g1' z2 (fun i h1 h2 => hrange i (by omega)) e0, kF (fun i h1 h2 => hrange i (by omega)) f0, kG g5' z3 (fun i h1 h2 => hrange i (by omega)) g0⟩ ?_ (s4.tr (CF_lo (by omega))) (by rw [← hDD]; exact s5.tr MF_1)
    · rw [eL] at hi
      obtain ⟨x0, x1, x2, x3, x4, x5, x6⟩ := c0 i hi
      have hf : ∀ f, f < 7 → f ≠ 5 → D' 1 (12 + 7 * i + f) = D 1 (12 + 7 * i + f) := fun f hf hf5 => by rw [hD _ (by omega), hx _ (by omega)]
      have hf0 := hf 0 (by omega) (by omega)
      rw [Nat.add_zero] at hf0
      refine ⟨by rw [hf0]; exact x0, by rw [hf 1 (by omega) (by omega)]; exact x1, by rw [hf 2 (by omega) (by omega)]; exact x2, by rw [hf 3 (by omega) (by omega)]; exact x3, by rw [hf 4 (by omega) (by omega)]; exact x4, ?_, by rw [hf 6 (by omega) (by omega)]; exact x6⟩
      rw [hD _ (by omega)]
      by_cases he : D 1 (12 + 7 * i + 5) = nI p
      · exact Or.inl (hin i hi he)
      · rw [hout i hi he]; exact x5
    · by_cases eq : q = p
      · subst eq
        exact ⟨by rw [ePp, hD0]; rfl, by omega, fun j hj => by omega, fun i j hi => by omega⟩
      · obtain ⟨a1, a2, a3, a4⟩ := d0.1 q hq
        have eQ := ePq q hq eq
        refine ⟨by rw [eQ, hD _ (by omega), hx _ (by omega)]; exact a1, by rw [eQ]; exact a2, fun j hj => ?_, fun i j hi hj he => ?_⟩
        · rw [eQ] at hj
          obtain ⟨l2, b1, b2, b3⟩ := a3 j hj
          refine ⟨l2, by rw [eL]; exact b1, by rw [hD _ (by omega), hx _ (by omega)]; exact b2, ?_⟩
          rw [hD _ (by omega), hout l2 b1 (fun e => by rw [b3, eq_nI (by omega) (by omega)] at e; exact eq e)]
          exact b3
        · rw [eQ] at hi hj
          rw [hD _ (by omega), hx _ (by omega), hD _ (by omega), hx _ (by omega)] at he
          exact a4 i j hi hj he
    · rw [eL] at hi
      rw [hD _ (by omega)] at he
      have hne : ¬ D 1 (12 + 7 * i + 5) = nI p := fun e => by
        rw [hin i hi e] at he
        exact neg1_ne hq he
      rw [hout i hi hne] at he
      have eq : q ≠ p := fun e => by subst e; exact hne he
      obtain ⟨j, b1, b2⟩ := d0.2 i q hi hq he
      have := z5 q hq
      exact ⟨j, by rw [ePq q hq eq]; exact b1, by rw [hD _ (by omega), hx _ (by omega)]; exact b2⟩
    · obtain ⟨r1, r2, r3, r4, r5, r6, r7, r8, r9⟩ := s3
      have eW : nW (Dn 1) = nW (D 1) := by unfold nW; rw [hx 1 (by omega)]
      have eV : ∀ w, w < nW (D 1) → nV (Dn 1) w = nV (D 1) w := fun w hw => by unfold nV; rw [hx _ (by omega)]
      refine ⟨?_, kk (wr_c (by omega)) (fun i h1 h2 => hD i (by omega)) r2, kh (wr_c (by omega)) (fun q hq => hD _ (by omega)) r3, kl (hD 0 (by omega)) (by rw [eLn]; exact z1) (fun k h1 h2 => wr_c (by omega)) (fun i h1 h2 => hD i (by omega)) r4, fun q hq => ?_, kw (hD 1 (by omega)) (by rw [eW]; exact z2) (fun w hw => by rw [eW] at hw; rw [eV w hw]; exact z6 w hw) (fun k h1 h2 => wr_c (by omega)) (fun i h1 h2 => hD i (by omega)) r6, kt (fun u hu => by unfold nX; rw [hx _ (by omega)]; exact z7 u hu) (fun k h1 => wr_c (by omega)) (fun i h1 h2 => hD i (by omega)) r7, ka (hD 5 (by omega)) (by unfold nT; rw [hx 5 (by omega)]; exact z3) (wr_c (by omega)) (wr_c (by omega)) (fun i h1 h2 => hD i (by omega)) r8, kq (hD 6 (by omega)) (by unfold nQ; rw [hx 6 (by omega)]; exact z4) (wr_c (by omega)) (wr_c (by omega)) (fun i h1 h2 => hD i (by omega)) r9⟩
      · unfold RSc at *
        rw [wr_c (show 0 ≠ 29 + 2 * p by omega), hD 2 (by omega), hD 3 (by omega), hD 4 (by omega), hD 7 (by omega), hD 0 (by omega), hD 1 (by omega)]; exact r1
      · by_cases eq : q = p
        · subst eq
          refine ⟨by rw [show 0 + 29 + 2 * q = 29 + 2 * q by omega, wr_s, hD0], fun j hj => by omega⟩
        · have := r5 q hq
          have h8 := z5 q hq
          rw [wr_c (by omega), wr_c (show 0 + 30 + 2 * q ≠ 29 + 2 * p by omega), hD _ (by omega), ePq q hq eq]
          rw [ePn q hq] at this
          exact ⟨this.1, fun j hj => by rw [hD _ (by omega)]; exact this.2 j hj⟩
  · simp only [hw, if_false, Bool.false_eq_true, e_ref1, e_err1, bd_s]
    exact op_err h (by decide) (by decide)
