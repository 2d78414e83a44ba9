/-! PURE 15: press; cases; days. -/
theorem hd_rng (x : Int32) {i : Nat} (hi : i < 2 ^ 31) : ∃ b, b ≤ i ∧ hd x 0 (nI i) = nI b := by
  unfold hd
  by_cases h0 : 0 ≤ x
  · rw [if_pos h0]
    by_cases h1 : x ≤ nI i
    · rw [if_pos h1]
      exact nI_of2 (nI_toInt hi) (i32_nlt.mpr h0) h1
    · rw [if_neg h1]; exact ⟨i, Nat.le_refl i, rfl⟩
  · rw [if_neg h0]; exact ⟨0, Nat.zero_le i, rfl⟩
theorem melt_rng {s : Sx} {g : Nat → Int32} {i : Nat} (h : g 3 = nI i) (hi : i ≤ 999) : ∃ b, b ≤ i ∧ meltL s g = nI b := by
  unfold meltL; rw [h]; exact hd_rng _ (by omega)
theorem step_press {C D : Mm} (h : Rel C D) {l : Nat} (hl : l < nL (D 1)) : ∃ C' D', (∀ (β : Type) (q : Mm → Option (β × Mm)), (bd (fX7_meltsOf (4 + 1 * l) C) fun r9 M10 => gd (isC layC (4 + 1 * l) 3) <| bd (fX3_takeIce (4 + 1 * l) r9 M10) fun r12 M13 => bd (fX7_dripInto r12 M13) fun _ M15 => bd (fX3_grow (4 + 1 * l) M15) fun _ M17 => q M17) = q C') ∧ (∀ (β : Type) (q : Mm → Option (β × Mm)), (bd (fX10_melts (nI l) D) fun r5 M6 => bd (fX10_its (nI l) 3 M6) fun r7 M8 => bd (fX10_lays1 (nI l) 3 (r7 - r5) M8) fun _ M10 => bd (fX10_drips r5 M10) fun _ M12 => bd (fX10_its (nI l) 6 M12) fun r13 M14 => bd (fX10_held (r13 + 1) 0 99 M14) fun r15 M16 => bd (fX10_lays1 (nI l) 6 r15 M16) fun _ M18 => q M18) = q D') ∧ Rel C' D' ∧ ∀ i, (i < 2 ∨ 180 ≤ i) → D' 1 i = D 1 i := by
  have hL := h.si.l24
  have hl24 : l < 24 := by omega
  obtain ⟨C1, D1, e1, e2, e3, e4⟩ := b_melts h hl
  have h1 := Rel_scr h e3 e4
  have eD : D1 1 = D 1 := e4 1 (by decide) (by decide)
  have hl1 : l < nL (D1 1) := by rw [eD]; exact hl
  have hlok := h1.si.2.2.1 l hl1
  obtain ⟨i, hi, ei⟩ := hlok.2.2.2.1
  obtain ⟨ag, hag, eag⟩ := hlok.2.2.2.2.2.2
  obtain ⟨b, hb, eb⟩ := melt_rng (s := D 1) (g := gS (D 1) l) (i := i) (by unfold gS; rw [← eD]; exact ei) hi
  rw [eb] at e1 e2
  have hci : C1 (4 + 1 * l) 3 = nI i := (h1.rs.let hl1 (f := 3) (by omega)).trans ei
  have h2 := r_let h1 hl1 (f := 3) (v := nI (i - b)) (by omega) (LOK_ice hlok (by omega))
  obtain ⟨wt, hwt, ewt⟩ := h1.si.water
  have hwC : (wr C1 (4 + 1 * l) 3 (nI (i - b))) 0 1 = nI wt := by rw [wr_at, if_neg (by omega)]; exact h1.rs.1.1.trans ewt
  have hwD : (wr D1 1 (12 + 7 * l + 3) (nI (i - b))) 1 2 = nI wt := by rw [wr_at, if_neg (by omega)]; exact ewt
  have e33 : (wr C1 (4 + 1 * l) 3 (nI (i - b))) 0 3 = (wr D1 1 (12 + 7 * l + 3) (nI (i - b))) 1 4 := by
    rw [wr_at, if_neg (by omega), wr_at, if_neg (by omega)]; exact h1.rs.1.2.2.1
  have h3 := r_mist (v := (wr D1 1 (12 + 7 * l + 3) (nI (i - b))) 1 4 + nI (wt + b - min (wt + b) 99999)) (r_water h2 (v := nI (min (wt + b) 99999)) (nI_pos' (by omega)) (nI_le (b := 99999) (by omega) (by omega)))
  generalize hC3 : wr (wr (wr C1 (4 + 1 * l) 3 (nI (i - b))) 0 1 (nI (min (wt + b) 99999))) 0 3 ((wr D1 1 (12 + 7 * l + 3) (nI (i - b))) 1 4 + nI (wt + b - min (wt + b) 99999)) = C3 at h3
  generalize hD3 : wr (wr (wr D1 1 (12 + 7 * l + 3) (nI (i - b))) 1 2 (nI (min (wt + b) 99999))) 1 4 ((wr D1 1 (12 + 7 * l + 3) (nI (i - b))) 1 4 + nI (wt + b - min (wt + b) 99999)) = D3 at h3
  have hx : ∀ j, j ≠ 2 → j ≠ 4 → j ≠ 12 + 7 * l + 3 → D3 1 j = D1 1 j := fun j q1 q2 q3 => by rw [← hD3, wr_at, if_neg (by omega), wr_at, if_neg (by omega), wr_at, if_neg (by omega)]
  have eL3 : nL (D3 1) = nL (D1 1) := by unfold nL; rw [hx 0 (by omega) (by omega) (by omega)]
  have hl3 : l < nL (D3 1) := by rw [eL3]; exact hl1
  have hlok3 := h3.si.2.2.1 l hl3
  have ea : D3 1 (12 + 7 * l + 6) = nI ag := by rw [hx _ (by omega) (by omega) (by omega)]; exact eag
  have eca : C3 (4 + 1 * l) 6 = nI ag := (h3.rs.let hl3 (f := 6) (by omega)).trans ea
  have h4 := r_let h3 hl3 (f := 6) (v := nI (min (ag + 1) 99)) (by omega) (LOK_age hlok3 (by omega))
  refine ⟨_, _, fun β q => ?_, fun β q => ?_, h4, fun j hj => ?_⟩
  · rw [e1, bd_s, c_let l hl24, gd_t]
    unfold fX3_takeIce
    rw [c_let l hl24, gd_t, lt_e, bd_s, hci, pk_sub hb, e_dripC hwC hwt (by omega), bd_s, e33, hC3]
    unfold fX3_grow
    rw [c_let l hl24, gd_t, lt_e, bd_s, eca, nI_1]
    have : (if (99 : Int32) < nI (ag + 1) then (99 : Int32) else nI (ag + 1)) = nI (min (ag + 1) 99) := by
      by_cases h9 : 99 < ag + 1
      · rw [if_pos (show (99 : Int32) < nI (ag + 1) from nI_lt (a := 99) h9 (by omega)), Nat.min_eq_right (by omega)]; rfl
      · rw [if_neg (show ¬ (99 : Int32) < nI (ag + 1) from nI_nlt (a := 99) (by omega) (by omega)), Nat.min_eq_left (by omega)]
    rw [this]
  · rw [e2, bd_s, e_its3 hl24, bd_s, ei, pk_sub hb, e_lays3 hl24, bd_s, e_dripM hwD hwt (by omega), bd_s, hD3, e_its6 hl24, bd_s, ea, nI_1, e_held, bd_s]
    have : hd (nI (ag + 1)) 0 99 = nI (min (ag + 1) 99) := hd_nI (hi := 99) (by omega) (by omega)
    rw [this, e_lays6 hl24, bd_s]
  · rw [wr_at, if_neg (by omega), hx j (by omega) (by omega) (by omega), eD]
theorem press_loop {p : Nat} (hp : p < 4) (cl : Bool) : ∀ (m f1 f2 j : Nat) (C D : Mm), m < f1 → m < f2 → Rel C D → j + m = nP (D 1) p → ∃ C' D', fX7_pressSheet_L17 (bi cl) (nI p) f1 (nI j) C = some (cl, wr C' 2 p (C' 2 p + 1)) ∧ fX10_meltsAll_L2 (nI p) 1 f2 (nI j) D = some ((), D') ∧ Rel C' D' ∧ nP (D' 1) p = nP (D 1) p := by
  intro m
  induction m with
  | zero =>
    intro f1 f2 j C D h1 h2 h hj
    obtain ⟨g1, rfl⟩ : ∃ g, f1 = g + 1 := ⟨f1 - 1, by omega⟩
    obtain ⟨g2, rfl⟩ : ∃ g, f2 = g + 1 := ⟨f2 - 1, by omega⟩
    obtain ⟨p1, p2, p3⟩ := h.pn hp
    have h8 := (h.si.pag hp).2.1
    unfold fX7_pressSheet_L17 fX10_meltsAll_L2 fX7_pressSheet_L17b fX10_meltsAll_L2b fX7_pressSheet_B64 fX10_meltsAll_B83
    rw [ix_nI (by omega), c_pag p hp, gd_t, p1, if_pos (nI_le (by omega) (by omega)), inb_nI hp (by omega), gd_t, lt_e, e_of0 hp, bd_s, p2, if_pos (nI_le (by omega) (by omega))]
    refine ⟨C, D, ?_, rfl, h, rfl⟩
    cases cl <;> rfl
  | succ m ih =>
    intro f1 f2 j C D h1 h2 h hj
    obtain ⟨g1, rfl⟩ : ∃ g, f1 = g + 1 := ⟨f1 - 1, by omega⟩
    obtain ⟨g2, rfl⟩ : ∃ g, f2 = g + 1 := ⟨f2 - 1, by omega⟩
    obtain ⟨p1, p2, p3⟩ := h.pn hp
    have h8 := (h.si.pag hp).2.1
    obtain ⟨l, hl, hl24, b2, b3, b4, b5, b6⟩ := h.pl hp (j := j) (by omega)
    obtain ⟨C', D', e1, e2, e3, e4⟩ := step_press h hl
    unfold fX7_pressSheet_L17 fX10_meltsAll_L2 fX7_pressSheet_L17b fX10_meltsAll_L2b
    rw [ix_nI (by omega), c_pag p hp, gd_t, p1, if_neg (nI_ge (by omega) (by omega)), b4, bd_s, e_of0 hp, bd_s, p2, if_neg (nI_ge (by omega) (by omega)), e_ofR hp b6, bd_s, b2]
    have eP : nP (D' 1) p = nP (D 1) p := by unfold nP; rw [e4 _ (by omega)]
    obtain ⟨C2, D2, s1, s2, s3, s4⟩ := ih g1 g2 (j + 1) C' D' (by omega) (by omega) e3 (by rw [eP]; omega)
    refine ⟨C2, D2, ?_, ?_, s3, by rw [s4, eP]⟩
    · rw [← s1, ← nI_1, inb_nI hp (by omega), gd_t]; exact e1 _ _
    · rw [← s2, ← nI_1]; exact e2 _ _
theorem b_sheet {C D : Mm} (h : Rel C D) {p : Nat} (hp : p < 4) : ∃ (cl : Bool) (C' D' : Mm), fX7_pressSheet (nI p) C = some (cl, C') ∧ fX10_sheet1 (nI p) D = some (bi cl, D') ∧ Rel C' D' := by
  have hFU := FU_big
  have h8 := (h.si.pag hp).2.1
  obtain ⟨r, C1, D1, s1, s2, s3, s4⟩ := b_seen h hp
  have h1 := Rel_scr h s3 s4
  have eD : D1 1 = D 1 := s4 1 (by decide) (by decide)
  have fin : ∀ cl : Bool, ∃ C' D', fX7_pressSheet_B14 (nI p) (bi cl) C1 = some (cl, C') ∧ fX10_sheet1_B14 (nI p) (bi cl) D1 = some (bi cl, D') ∧ Rel C' D' := by
    intro cl
    obtain ⟨C2, D2, t1, t2, t3, t4⟩ := press_loop hp cl (nP (D1 1) p) FU FU 0 C1 D1 (by rw [eD]; omega) (by rw [eD]; omega) h1 (by omega)
    unfold fX7_pressSheet_B14 fX10_sheet1_B14 fX10_meltsAll
    rw [show (0 : Int32) = nI 0 from rfl, t1, t2, bd_s]
    have ei : ((180 : Int32) + ((10 : Int32) * nI p)) + (1 : Int32) = nI (181 + 10 * p) := by
      have := x_pag p 1
      rw [show 180 + 10 * p + 1 = 181 + 10 * p by omega] at this; exact this
    rw [ei, inb_nI (by omega) (by omega), gd_t, ix_nI (by omega), lt_e]
    refine ⟨_, _, rfl, rfl, ?_⟩
    obtain ⟨p1, p2, p3⟩ := t3.pn hp
    rw [p3]
    exact r_sheet t3 hp
  unfold fX7_pressSheet fX10_sheet1
  rw [s1, s2, bd_s, bd_s]
  by_cases hr : r < 3
  · rw [if_pos hr, if_pos hr]
    obtain ⟨C', D', f1, f2, f3⟩ := fin false
    exact ⟨false, C', D', f1, f2, f3⟩
  · rw [if_neg hr, if_neg hr]
    obtain ⟨C', D', f1, f2, f3⟩ := fin true
    exact ⟨true, C', D', f1, f2, f3⟩
theorem pressn_loop {p n : Nat} (hp : p < 4) (hn : n < 100) : ∀ (m f1 f2 j : Nat) (v : Int32) (C D : Mm), m < f1 → m < f2 → j + m = n → Rel C D → Op (fX9_press_L53 (nI p) (nI n) f1 (nI j) v C) (fX10_press_L48 (nI p) (nI n) f2 (nI j) v D) := by
  intro m
  induction m with
  | zero =>
    intro f1 f2 j v C D h1 h2 hj h
    obtain ⟨g1, rfl⟩ : ∃ g, f1 = g + 1 := ⟨f1 - 1, by omega⟩
    obtain ⟨g2, rfl⟩ : ∃ g, f2 = g + 1 := ⟨f2 - 1, by omega⟩
    unfold fX9_press_L53 fX10_press_L48 fX9_press_L53b fX10_press_L48b fX9_press_B84 fX10_press_B68
    rw [if_pos (nI_le (by omega) (by omega)), if_pos (nI_le (by omega) (by omega))]
    exact ⟨_, _, _, rfl, rfl, h⟩
  | succ m ih =>
    intro f1 f2 j v C D h1 h2 hj h
    obtain ⟨g1, rfl⟩ : ∃ g, f1 = g + 1 := ⟨f1 - 1, by omega⟩
    obtain ⟨g2, rfl⟩ : ∃ g, f2 = g + 1 := ⟨f2 - 1, by omega⟩
    obtain ⟨cl, C', D', e1, e2, e3⟩ := b_sheet h hp
    unfold fX9_press_L53 fX10_press_L48 fX9_press_L53b fX10_press_L48b fX9_press_B76
    rw [if_neg (nI_ge (by omega) (by omega)), if_neg (nI_ge (by omega) (by omega)), e1, e2, bd_s, bd_s, lt_e, show nI j + 1 = nI (j + 1) from nI_1 j]
    have := ih g1 g2 (j + 1) (v + bi cl) C' D' (by omega) (by omega) (by omega) e3
    cases cl with
    | true => rw [if_pos rfl, lt_e]; exact this
    | false => rw [if_neg (by decide), lt_e]; exact this
theorem op_press {C D : Mm} (h : Rel C D) (a b : Int32) : Op (fX9_press a b C) (fX10_press a b D) := by
  have err : Op (fX9_press_B17 C) (fX10_press_B17 D) := by
    unfold fX9_press_B17 fX10_press_B17
    rw [e_ref1, e_err1]
    exact op_err h (by decide) (by decide)
  have hFU := FU_big
  unfold fX9_press fX10_press
  rw [e_isPageC, e_isPage, bd_s, bd_s]
  by_cases hw : wi a 0 3 = true
  · obtain ⟨p, hp, rfl⟩ := wi3 hw
    obtain ⟨p1, p2, p3⟩ := h.pn hp
    rw [hw, if_pos rfl, if_pos rfl, e_isWithin, e_in, bd_s, bd_s]
    by_cases hk : wi b 1 99 = true
    · obtain ⟨n, n1, n99, rfl⟩ := wiR (lo := 1) (hi := 99) (by omega) hk (by omega)
      rw [hk, if_pos rfl, if_pos rfl, inb_nI hp (by omega), gd_t, ix_nI (by omega), e_of1 hp, bd_s, p3]
      by_cases hle : D 1 (181 + 10 * p) + nI n ≤ 9999
      · rw [if_pos hle, if_pos hle]
        exact pressn_loop hp (by omega) n FU FU 0 0 C D (by omega) (by omega) (by omega) h
      · rw [if_neg hle, if_neg hle, e_ref3, e_err3]
        exact op_err h (by decide) (by decide)
    · rw [if_neg hk, if_neg hk]; exact err
  · rw [if_neg hw, if_neg hw]; exact err
theorem case_loop (gl : Int32) : ∀ (m f1 f2 j : Nat) (v : Int32) (C D : Mm), m < f1 → m < f2 → Rel C D → j + m = nL (D 1) → ∃ r, fX7_caseOf_L4 gl f1 (nI j) v C = some (r, C) ∧ fX10_caseOf_L4 gl f2 (nI j) v D = some (r, D) := by
  intro m
  induction m with
  | zero =>
    intro f1 f2 j v C D h1 h2 h hj
    obtain ⟨g1, rfl⟩ : ∃ g, f1 = g + 1 := ⟨f1 - 1, by omega⟩
    obtain ⟨g2, rfl⟩ : ∃ g, f2 = g + 1 := ⟨f2 - 1, by omega⟩
    have hL := h.si.l24
    unfold fX7_caseOf_L4 fX10_caseOf_L4 fX7_caseOf_L4b fX10_caseOf_L4b fX7_caseOf_B54 fX10_caseOf_B56
    rw [h.rs.1.2.2.2.2.1, ix_lit0, h.si.l0, if_pos (nI_le (by omega) (by omega)), if_pos (nI_le (by omega) (by omega))]
    exact ⟨_, rfl, rfl⟩
  | succ m ih =>
    intro f1 f2 j v C D h1 h2 h hj
    obtain ⟨g1, rfl⟩ : ∃ g, f1 = g + 1 := ⟨f1 - 1, by omega⟩
    obtain ⟨g2, rfl⟩ : ∃ g, f2 = g + 1 := ⟨f2 - 1, by omega⟩
    have hL := h.si.l24
    have hl : j < nL (D 1) := by omega
    have hl24 : j < 24 := by omega
    have eg := h.rs.let hl (f := 2) (by omega)
    have ep := h.rs.let hl (f := 5) (by omega)
    obtain ⟨er1, er2⟩ := b_reads h hl
    have go := fun v => ih g1 g2 (j + 1) v C D (by omega) (by omega) h (by omega)
    unfold fX7_caseOf_L4 fX10_caseOf_L4 fX7_caseOf_L4b fX10_caseOf_L4b fX7_caseOf_B48 fX10_caseOf_B47 fX10_caseOf_B48
    rw [h.rs.1.2.2.2.2.1, ix_lit0, h.si.l0, if_neg (nI_ge (by omega) (by omega)), if_neg (nI_ge (by omega) (by omega)), inb_nI hl24 (by omega), gd_t, ix_nI (by omega), c_let j hl24, gd_t, e_its2 hl24, bd_s, eg, ep, er1, bd_s, show nI j + 1 = nI (j + 1) from nI_1 j, lt_e, Int32.add_zero]
    by_cases h1 : D 1 (12 + 7 * j + 2) = gl
    · rw [if_pos h1, if_pos h1, e_its5 hl24, bd_s]
      rcases (h.si.2.2.1 j hl).2.2.2.2.2.1 with hp | ⟨p, hp4, hp⟩
      · rw [hp, if_neg (by decide), if_pos rfl, er2, bd_s]
        by_cases h0 : readL (gS (D 1) j) ≤ 0
        · rw [if_pos h0, if_pos h0]; exact go v
        · rw [if_neg h0, if_neg h0, lt_e]; exact go (v + 1)
      · rw [hp, if_pos (nI_pos' (by omega)), if_neg (fun e => neg1_ne hp4 e.symm)]
        exact go v
    · rw [if_neg h1, if_neg h1]; exact go v
theorem b_case {C D : Mm} (h : Rel C D) (gl : Int32) : ∃ r, fX7_caseOf gl C = some (r, C) ∧ fX10_caseOf gl D = some (r, D) := by
  have hFU := FU_big
  have hL := h.si.l24
  exact case_loop gl (nL (D 1)) FU FU 0 0 C D (by omega) (by omega) h (by omega)
theorem op_inCase {C D : Mm} (h : Rel C D) (a : Int32) : Op (fX9_inCase a C) (fX10_inCase a D) := by
  unfold fX9_inCase fX10_inCase fX9_inCase_B27 fX10_inCase_B23
  rw [e_isWithin, e_in, bd_s, bd_s]
  by_cases hw : wi a 1 26 = true
  · obtain ⟨r, e1, e2⟩ := b_case h a
    rw [if_pos hw, if_pos hw, e1, e2]
    exact ⟨_, _, _, rfl, rfl, h⟩
  · rw [if_neg hw, if_neg hw, e_ref1, e_err1]
    exact op_err h (by decide) (by decide)
