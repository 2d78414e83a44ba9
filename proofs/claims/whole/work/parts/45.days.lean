/-! PURE 16: days, count, check, said. -/
theorem hd_b {x lo hi : Int32} (h : lo ≤ hi) : lo ≤ hd x lo hi ∧ hd x lo hi ≤ hi := by
  unfold hd
  by_cases h1 : lo ≤ x
  · rw [if_pos h1]
    by_cases h2 : x ≤ hi
    · rw [if_pos h2]; exact ⟨h1, h2⟩
    · rw [if_neg h2]; exact ⟨h, Int32.le_refl hi⟩
  · rw [if_neg h1]; exact ⟨Int32.le_refl lo, h⟩
theorem dlet_loop : ∀ (m f1 f2 j : Nat) (v : Int32) (C D : Mm), m < f1 → m < f2 → Rel C D → j + m = nL (D 1) → Op (fX7_warmDay_L66 f1 (nI j) v C) (fX10_day_L54 f2 (nI j) v D) := by
  intro m
  induction m with
  | zero =>
    intro f1 f2 j v C D h1 h2 h hj
    obtain ⟨g1, rfl⟩ : ∃ g, f1 = g + 1 := ⟨f1 - 1, by omega⟩
    obtain ⟨g2, rfl⟩ : ∃ g, f2 = g + 1 := ⟨f2 - 1, by omega⟩
    have hL := h.si.l24
    unfold fX7_warmDay_L66 fX10_day_L54 fX7_warmDay_L66b fX10_day_L54b fX7_warmDay_B116 fX10_day_B109
    rw [h.rs.1.2.2.2.2.1, ix_lit0, h.si.l0, if_pos (nI_le (by omega) (by omega)), if_pos (nI_le (by omega) (by omega)), lt_e, lt_e, ix_lit4, h.rs.1.2.2.1]
    exact ⟨_, _, _, rfl, rfl, r_mist h⟩
  | succ m ih =>
    intro f1 f2 j v C D h1 h2 h hj
    obtain ⟨g1, rfl⟩ : ∃ g, f1 = g + 1 := ⟨f1 - 1, by omega⟩
    obtain ⟨g2, rfl⟩ : ∃ g, f2 = g + 1 := ⟨f2 - 1, by omega⟩
    have hL := h.si.l24
    have hl : j < nL (D 1) := by omega
    have hl24 : j < 24 := by omega
    have ep := h.rs.let hl (f := 5) (by omega)
    unfold fX7_warmDay_L66 fX10_day_L54 fX7_warmDay_L66b fX10_day_L54b fX7_warmDay_B110 fX10_day_B103
    rw [h.rs.1.2.2.2.2.1, ix_lit0, h.si.l0, if_neg (nI_ge (by omega) (by omega)), if_neg (nI_ge (by omega) (by omega)), inb_nI hl24 (by omega), gd_t, ix_nI (by omega), c_let j hl24, gd_t, e_its5 hl24, bd_s, ep, show nI j + 1 = nI (j + 1) from nI_1 j]
    rcases (h.si.2.2.1 j hl).2.2.2.2.2.1 with hp | ⟨p, hp4, hp⟩
    · obtain ⟨C1, D1, e1, e2, e3, e4⟩ := b_melts h hl
      have h1 := Rel_scr h e3 e4
      have eD : D1 1 = D 1 := e4 1 (by decide) (by decide)
      have hl1 : j < nL (D1 1) := by rw [eD]; exact hl
      have hlok := h1.si.2.2.1 j hl1
      obtain ⟨i, hi, ei⟩ := hlok.2.2.2.1
      obtain ⟨b, hb, eb⟩ := melt_rng (s := D 1) (g := gS (D 1) j) (i := i) (by unfold gS; rw [← eD]; exact ei) hi
      have hci : C1 (4 + 1 * j) 3 = nI i := (h1.rs.let hl1 (f := 3) (by omega)).trans ei
      have hdiv : nI b / 2 = nI (b / 2) := pk_div (d := 2) (by omega) (by omega) (by omega)
      rw [hp, if_neg (by decide), if_pos rfl, e1, e2, bd_s, bd_s, eb, hdiv, lt_e, e_its3 hl24, bd_s, ei, pk_sub (show b / 2 ≤ i by omega), e_lays3 hl24, bd_s, lt_e]
      unfold fX3_takeIce
      rw [c_let j hl24, gd_t, lt_e, bd_s, lt_e, hci, pk_sub (show b / 2 ≤ i by omega)]
      have h2' := r_let h1 hl1 (f := 3) (v := nI (i - b / 2)) (by omega) (LOK_ice hlok (by omega))
      refine ih g1 g2 (j + 1) _ _ _ (by omega) (by omega) h2' ?_
      have : nL (wr D1 1 (12 + 7 * j + 3) (nI (i - b / 2)) 1) = nL (D 1) := by unfold nL; rw [wr_at, if_neg (by omega), eD]
      omega
    · rw [hp, if_pos (nI_pos' (by omega)), if_neg (fun e => neg1_ne hp4 e.symm)]
      exact ih g1 g2 (j + 1) v C D (by omega) (by omega) h (by omega)
theorem dcold_loop (less : Int32) : ∀ (m f1 f2 j : Nat) (C D : Mm), m < f1 → m < f2 → Rel C D → j + m = 4 → Op (fX7_warmDay_L30 less f1 (nI j) C) (fX10_day_L12 less f2 (nI j) D) := by
  have hFU := FU_big
  intro m
  induction m with
  | zero =>
    intro f1 f2 j C D h1 h2 h hj
    obtain ⟨g1, rfl⟩ : ∃ g, f1 = g + 1 := ⟨f1 - 1, by omega⟩
    obtain ⟨g2, rfl⟩ : ∃ g, f2 = g + 1 := ⟨f2 - 1, by omega⟩
    have hj4 : j = 4 := by omega
    subst hj4
    have hL := h.si.l24
    unfold fX7_warmDay_L30 fX10_day_L12 fX7_warmDay_L30b fX10_day_L12b fX7_warmDay_B62 fX10_day_B50
    rw [if_pos (by decide), if_pos (by decide)]
    exact dlet_loop (nL (D 1)) FU FU 0 0 C D (by omega) (by omega) h (by omega)
  | succ m ih =>
    intro f1 f2 j C D h1 h2 h hj
    obtain ⟨g1, rfl⟩ : ∃ g, f1 = g + 1 := ⟨f1 - 1, by omega⟩
    obtain ⟨g2, rfl⟩ : ∃ g, f2 = g + 1 := ⟨f2 - 1, by omega⟩
    have hj4 : j < 4 := by omega
    have ec := h.rs.2.1 j hj4
    rw [show 0 + 1 = 1 from rfl] at ec
    unfold fX7_warmDay_L30 fX10_day_L12 fX7_warmDay_L30b fX10_day_L12b
    rw [if_neg (show ¬ (4 : Int32) ≤ nI j from nI_ge (b := 4) (by omega) (by omega)), if_neg (show ¬ (4 : Int32) ≤ nI j from nI_ge (b := 4) (by omega) (by omega)), inb_nI hj4 (by omega), gd_t, ix_nI (by omega), e_hold, bd_s, lt_e, show (8 : Int32) + nI j = nI (8 + j) by rw [← nI_add]; rfl, inb_nI (by omega) (by omega), gd_t, ix_nI (by omega), e_held, bd_s, lt_e, ec, show nI j + 1 = nI (j + 1) from nI_1 j]
    have hb := hd_b (x := D 1 (8 + j) - less) (lo := -9) (hi := 20) (by decide)
    exact ih g1 g2 (j + 1) _ _ (by omega) (by omega) (r_cold h hj4 hb.1 hb.2) (by omega)
theorem b_day {C D : Mm} (h : Rel C D) : Op (fX7_warmDay C) (fX10_day D) := by
  have hFU := FU_big
  unfold fX7_warmDay fX10_day fX10_draw
  rw [lt_e, lt_e, lt_e, bd_s, lt_e, ix_lit7, wr_s, wr_s, h.rs.1.2.2.2.1]
  exact dcold_loop _ 4 FU FU 0 _ _ (by omega) (by omega) (r_z h) (by omega)
theorem days_loop {n : Nat} (hn : n ≤ 20) : ∀ (m f1 f2 j : Nat) (v : Int32) (C D : Mm), m < f1 → m < f2 → Rel C D → j + m = n → Op (fX9_days_L21 (nI n) f1 (nI j) v C) (fX10_days_L20 (nI n) f2 (nI j) v D) := by
  intro m
  induction m with
  | zero =>
    intro f1 f2 j v C D h1 h2 h hj
    obtain ⟨g1, rfl⟩ : ∃ g, f1 = g + 1 := ⟨f1 - 1, by omega⟩
    obtain ⟨g2, rfl⟩ : ∃ g, f2 = g + 1 := ⟨f2 - 1, by omega⟩
    unfold fX9_days_L21 fX10_days_L20 fX9_days_L21b fX10_days_L20b fX9_days_B42 fX10_days_B38
    rw [if_pos (nI_le (by omega) (by omega)), if_pos (nI_le (by omega) (by omega))]
    exact ⟨_, _, _, rfl, rfl, h⟩
  | succ m ih =>
    intro f1 f2 j v C D h1 h2 h hj
    obtain ⟨g1, rfl⟩ : ∃ g, f1 = g + 1 := ⟨f1 - 1, by omega⟩
    obtain ⟨g2, rfl⟩ : ∃ g, f2 = g + 1 := ⟨f2 - 1, by omega⟩
    obtain ⟨r, C', D', e1, e2, e3⟩ := b_day h
    unfold fX9_days_L21 fX10_days_L20 fX9_days_L21b fX10_days_L20b
    rw [if_neg (nI_ge (by omega) (by omega)), if_neg (nI_ge (by omega) (by omega)), e1, e2, bd_s, bd_s, lt_e, lt_e, show nI j + 1 = nI (j + 1) from nI_1 j]
    exact ih g1 g2 (j + 1) _ C' D' (by omega) (by omega) e3 (by omega)
theorem op_days {C D : Mm} (h : Rel C D) (a : Int32) : Op (fX9_days a C) (fX10_days a D) := by
  have hFU := FU_big
  unfold fX9_days fX10_days
  rw [e_isWithin, e_in, bd_s, bd_s]
  by_cases hw : wi a 1 20 = true
  · obtain ⟨n, n1, n20, rfl⟩ := wiR (lo := 1) (hi := 20) (by omega) hw (by omega)
    rw [if_pos hw, if_pos hw]
    exact days_loop n20 n FU FU 0 0 C D (by omega) (by omega) h (by omega)
  · rw [if_neg hw, if_neg hw, e_ref1, e_err1]
    exact op_err h (by decide) (by decide)
theorem ice_loop : ∀ (m f1 f2 j : Nat) (v : Int32) (C D : Mm), m < f1 → m < f2 → Rel C D → j + m = nL (D 1) → ∃ r, fX7_iceOfAll_L4 f1 (nI j) v C = some (r, C) ∧ fX10_allIce_L4 f2 (nI j) v D = some (r, D) := by
  intro m
  induction m with
  | zero =>
    intro f1 f2 j v C D h1 h2 h hj
    obtain ⟨g1, rfl⟩ : ∃ g, f1 = g + 1 := ⟨f1 - 1, by omega⟩
    obtain ⟨g2, rfl⟩ : ∃ g, f2 = g + 1 := ⟨f2 - 1, by omega⟩
    have hL := h.si.l24
    unfold fX7_iceOfAll_L4 fX10_allIce_L4 fX7_iceOfAll_L4b fX10_allIce_L4b fX7_iceOfAll_B30 fX10_allIce_B29
    rw [h.rs.1.2.2.2.2.1, ix_lit0, h.si.l0, if_pos (nI_le (by omega) (by omega)), if_pos (nI_le (by omega) (by omega))]
    exact ⟨_, rfl, rfl⟩
  | succ m ih =>
    intro f1 f2 j v C D h1 h2 h hj
    obtain ⟨g1, rfl⟩ : ∃ g, f1 = g + 1 := ⟨f1 - 1, by omega⟩
    obtain ⟨g2, rfl⟩ : ∃ g, f2 = g + 1 := ⟨f2 - 1, by omega⟩
    have hL := h.si.l24
    have hl : j < nL (D 1) := by omega
    have hl24 : j < 24 := by omega
    unfold fX7_iceOfAll_L4 fX10_allIce_L4 fX7_iceOfAll_L4b fX10_allIce_L4b
    rw [h.rs.1.2.2.2.2.1, ix_lit0, h.si.l0, if_neg (nI_ge (by omega) (by omega)), if_neg (nI_ge (by omega) (by omega)), inb_nI hl24 (by omega), gd_t, ix_nI (by omega), c_let j hl24, gd_t, lt_e, e_its3 hl24, bd_s, lt_e, h.rs.let hl (f := 3) (by omega), show nI j + 1 = nI (j + 1) from nI_1 j]
    exact ih g1 g2 (j + 1) _ C D (by omega) (by omega) h (by omega)
theorem op_count {C D : Mm} (h : Rel C D) (a : Int32) : Op (fX9_count a C) (fX10_count a D) := by
  obtain ⟨q1, q2, q3, q4, q5, q6⟩ := id h.rs.1
  have hFU := FU_big
  have hL := h.si.l24
  have one : ∀ x y : Int32, x = y → Op (some (x, C)) (some (y, D)) := fun x y e => ⟨_, _, _, rfl, by rw [e], h⟩
  unfold fX9_count fX10_count fX9_count_B177 fX10_count_B155
  rw [ix_lit0, ix_lit1, ix_lit2, ix_lit3, ix_lit4, ix_lit5, ix_lit6, ix_lit7]
  by_cases h0 : a = 0
  · rw [if_pos h0, if_pos h0]; exact one _ _ q5
  rw [if_neg h0, if_neg h0]
  by_cases h1 : a = 1
  · rw [if_pos h1, if_pos h1]; exact one _ _ q6
  rw [if_neg h1, if_neg h1]
  by_cases h2 : a = 2
  · rw [if_pos h2, if_pos h2]; exact one _ _ q1
  rw [if_neg h2, if_neg h2]
  by_cases h3 : a = 3
  · rw [if_pos h3, if_pos h3]; exact one _ _ q2
  rw [if_neg h3, if_neg h3]
  by_cases h4 : a = 4
  · rw [if_pos h4, if_pos h4]; exact one _ _ q3
  rw [if_neg h4, if_neg h4]
  by_cases h5 : a = 5
  · rw [if_pos h5, if_pos h5]
    obtain ⟨r, e1, e2⟩ := ice_loop (nL (D 1)) FU FU 0 0 C D (by omega) (by omega) h (by omega)
    unfold fX7_iceOfAll fX10_allIce
    rw [show (0 : Int32) = nI 0 from rfl] at *
    rw [e1, e2]
    exact one _ _ rfl
  rw [if_neg h5, if_neg h5]
  by_cases h6 : a = 6
  · rw [if_pos h6, if_pos h6]; exact one _ _ h.rs.2.2.2.2.2.2.2.1.1
  rw [if_neg h6, if_neg h6]
  by_cases h7 : a = 7
  · rw [if_pos h7, if_pos h7]; exact one _ _ h.rs.2.2.2.2.2.2.2.2.1
  rw [if_neg h7, if_neg h7]
  by_cases h8 : a = 8
  · rw [if_pos h8, if_pos h8]; exact one _ _ h.2.2.2.2.1.2.1
  rw [if_neg h8, if_neg h8]
  by_cases h9 : a = 9
  · rw [if_pos h9, if_pos h9]; exact one _ _ q4
  rw [if_neg h9, if_neg h9, e_isWithin, e_in, bd_s, bd_s]
  by_cases hw : wi a 10 13 = true
  · obtain ⟨k, k1, k2, rfl⟩ := wiR (lo := 10) (hi := 13) (by omega) hw (by omega)
    have e1 : nI k - 10 = nI (k - 10) := pk_sub (b := 10) k1
    have e2 : ((8 : Int32) + nI k) - 10 = nI (8 + (k - 10)) := by
      rw [show (8 : Int32) = nI 8 from rfl, nI_add, show (10 : Int32) = nI 10 from rfl, pk_sub (by omega)]
      exact congrArg nI (by omega)
    rw [if_pos hw, if_pos hw, e1, e2, inb_nI (by omega) (by omega), gd_t, ix_nI (by omega), inb_nI (by omega) (by omega), gd_t, ix_nI (by omega)]
    exact one _ _ (h.rs.2.1 (k - 10) (by omega))
  · rw [if_neg hw, if_neg hw, e_ref1, e_err1]
    exact op_err h (by decide) (by decide)
