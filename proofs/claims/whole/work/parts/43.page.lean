/-! PURE 14: letterIs, pageIs, press. -/
theorem Rel_scr {C C' D D' : Mm} (h : Rel C D) (hc : ScC C C') (hd : ScM D D') : Rel C' D' := by
  have e1 : D' 1 = D 1 := hd 1 (by decide) (by decide)
  refine Rel_now h (by rw [e1]; exact h.si) (by rw [e1]; exact RS_frame h.si (fun a ha => hc a (by unfold shc at ha; omega) (by unfold shc at ha; omega) (by unfold shc at ha; omega) (by unfold shc at ha; omega)) h.rs) (fun a ha => hc a (by omega) (by omega) (by omega) (by omega)) (MF_67 hd)
theorem L_congr {g g2 : Nat → Int32} (h : ∀ f, f < 7 → g f = g2 f) : (∀ s, meltL s g = meltL s g2) ∧ readL g = readL g2 ∧ (∀ s sh, seesL s g sh = seesL s g2 sh) ∧ (LG g → LG g2) := by
  have h0 := h 0 (by omega)
  have h1 := h 1 (by omega)
  have h2 := h 2 (by omega)
  have h3 := h 3 (by omega)
  have h4 := h 4 (by omega)
  have h6 := h 6 (by omega)
  have hr : readL g = readL g2 := by unfold readL rdq; rw [h0, h1, h3]
  refine ⟨fun s => ?_, hr, fun s sh => ?_, fun hg => ?_⟩
  · unfold meltL rawL toldL coldL; rw [h0, h1, h3, h4, h6]
  · unfold seesL; rw [hr, h2]
  · unfold LG at *; rw [← h0, ← h1, ← h3, ← h4, ← h6]; exact hg
theorem Rel.gc {C D : Mm} (h : Rel C D) {l : Nat} (hl : l < nL (D 1)) : ∀ f, f < 7 → C (4 + 1 * l) f = gS (D 1) l f := fun f hf => h.rs.let hl hf
theorem Rel.lg {C D : Mm} (h : Rel C D) {l : Nat} (hl : l < nL (D 1)) : LG (gS (D 1) l) := (h.si.2.2.1 l hl).lg
theorem Rel.lgc {C D : Mm} (h : Rel C D) {l : Nat} (hl : l < nL (D 1)) : LG (C (4 + 1 * l)) := (L_congr (fun f hf => (h.gc hl f hf).symm)).2.2.2 (h.lg hl)
/-- both sides: melts, reads, sees of a letter -/
theorem b_melts {C D : Mm} (h : Rel C D) {l : Nat} (hl : l < nL (D 1)) : ∃ C' D', fX7_meltsOf (4 + 1 * l) C = some (meltL (D 1) (gS (D 1) l), C') ∧ fX10_melts (nI l) D = some (meltL (D 1) (gS (D 1) l), D') ∧ ScC C C' ∧ ScM D D' := by
  have hL := h.si.l24
  obtain ⟨r, C', e1, e2, e3⟩ := o_meltsC (c_let l (by omega)) h.rs.rx h.si.tx (h.lgc hl)
  obtain ⟨r2, D', f1, f2, f3⟩ := o_meltsM (show l < 24 by omega) h.si.tx (h.lg hl)
  refine ⟨C', D', ?_, ?_, e3, f3⟩
  · rw [e1, e2, (L_congr (h.gc hl)).1]
  · rw [f1, f2]
theorem b_reads {C D : Mm} (h : Rel C D) {l : Nat} (hl : l < nL (D 1)) : fX3_reads (4 + 1 * l) C = some (readL (gS (D 1) l), C) ∧ fX10_read (nI l) D = some (readL (gS (D 1) l), D) := by
  have hL := h.si.l24
  refine ⟨?_, e_readsM (by omega) (h.lg hl)⟩
  rw [e_readsC (c_let l (by omega)) (h.lgc hl), (L_congr (h.gc hl)).2.1]
theorem b_sees {C D : Mm} (h : Rel C D) {l : Nat} (hl : l < nL (D 1)) : ∃ C' D', fX7_seesOf (4 + 1 * l) (shS (D 1) l) C = some (seesL (D 1) (gS (D 1) l) (shS (D 1) l), C') ∧ fX10_sees (nI l) D = some (seesL (D 1) (gS (D 1) l) (shS (D 1) l), D') ∧ ScC C C' ∧ ScM D D' := by
  have hL := h.si.l24
  obtain ⟨r, C', e1, e2, e3⟩ := o_seesC (shS (D 1) l) (c_let l (by omega)) h.rs.rx h.si.tx (h.lgc hl)
  obtain ⟨r2, D', f1, f2, f3⟩ := o_seesM (show l < 24 by omega) h.si.tx (h.lg hl) (h.si.2.2.1 l hl).2.2.2.2.2.1
  refine ⟨C', D', ?_, ?_, e3, f3⟩
  · rw [e1, e2, (L_congr (h.gc hl)).2.2.1]
  · rw [f1, f2]
theorem b_around {C D : Mm} (h : Rel C D) {l : Nat} (hl : l < nL (D 1)) : fX7_sheetsAround (4 + 1 * l) C = some (shS (D 1) l, C) := by
  have hL := h.si.l24
  unfold fX7_sheetsAround fX7_sheetsAround_B23
  have e5 : C (4 + 1 * l) 5 = D 1 (12 + 7 * l + 5) := h.gc hl 5 (by omega)
  rw [c_let l (by omega), gd_t, e5, e_isPageC, bd_s]
  unfold shS
  rcases (h.si.2.2.1 l hl).2.2.2.2.2.1 with hp | ⟨p, hp4, hp⟩
  · rw [hp, show wi (-1) 0 3 = false by decide, if_neg (by decide), if_pos rfl]
  · rw [hp, wi3_t hp4, if_pos rfl, e5, hp, inb_nI hp4 (by omega), gd_t, ix_nI (by omega), if_neg (fun e => neg1_ne hp4 e.symm)]
    have := h.rs.2.2.1 p hp4
    rw [show 0 + 2 = 2 from rfl] at this
    rw [this]
theorem op_letterIs {C D : Mm} (h : Rel C D) (a w : Int32) : Op (fX9_letterIs a w C) (fX10_letterIs a w D) := by
  have err : Op (fX9_letterIs_B21 C) (fX10_letterIs_B27 D) := by
    unfold fX9_letterIs_B21 fX10_letterIs_B27 fX10_letterIs_B32
    rw [e_ref1, e_err1]
    exact op_err h (by decide) (by decide)
  unfold fX9_letterIs fX10_letterIs
  rw [e_hasLetter, e_isLetter, bd_s, bd_s]
  rcases two_let h a with ⟨l, hl, hl24, rfl, w1, w2⟩ | ⟨w1, w2⟩
  · rw [w1, w2, if_pos rfl, if_pos rfl, e_isWithin, e_in, bd_s, bd_s]
    by_cases hk : wi w 0 9 = true
    · obtain ⟨q, hq, rfl⟩ := wi_in (n := 9) (by omega) hk
      rw [hk, if_pos rfl, if_pos rfl, inb_nI hl24 (by omega), gd_t, ix_nI (by omega), b_around h hl, bd_s]
      unfold fX7_factOf fX10_toldLetter fX10_toldLetter_B48 fX10_letterIs_B32
      have fld : ∀ f : Nat, f < 7 → Op (some (C (4 + 1 * l) f, C)) (some (D 1 (12 + 7 * l + f), D)) := fun f hf => ⟨_, _, _, rfl, by rw [h.rs.let hl hf], h⟩
      rcases (show q = 0 ∨ q = 1 ∨ q = 2 ∨ q = 3 ∨ q = 4 ∨ q = 5 ∨ q = 6 ∨ q = 7 ∨ q = 8 ∨ q = 9 by omega) with rfl | rfl | rfl | rfl | rfl | rfl | rfl | rfl | rfl | rfl
      · rw [if_pos (by decide), c_let l hl24, if_neg (by decide), if_neg (by decide), if_neg (by decide), e_itsN hl24 (by omega)]; exact fld 0 (by omega)
      · rw [if_neg (by decide), if_pos (by decide), c_let l hl24, if_neg (by decide), if_neg (by decide), if_neg (by decide), e_itsN hl24 (by omega)]; exact fld 1 (by omega)
      · rw [if_neg (by decide), if_neg (by decide), if_pos (by decide), c_let l hl24, if_neg (by decide), if_neg (by decide), if_neg (by decide), e_itsN hl24 (by omega)]; exact fld 2 (by omega)
      · rw [if_neg (by decide), if_neg (by decide), if_neg (by decide), if_pos (by decide), c_let l hl24, if_neg (by decide), if_neg (by decide), if_neg (by decide), e_itsN hl24 (by omega)]; exact fld 3 (by omega)
      · rw [if_neg (by decide), if_neg (by decide), if_neg (by decide), if_neg (by decide), if_pos (by decide), c_let l hl24, if_neg (by decide), if_neg (by decide), if_neg (by decide), e_itsN hl24 (by omega)]; exact fld 4 (by omega)
      · rw [if_neg (by decide), if_neg (by decide), if_neg (by decide), if_neg (by decide), if_neg (by decide), if_pos (by decide), c_let l hl24, if_neg (by decide), if_neg (by decide), if_neg (by decide), e_itsN hl24 (by omega)]; exact fld 5 (by omega)
      · rw [if_neg (by decide), if_neg (by decide), if_neg (by decide), if_neg (by decide), if_neg (by decide), if_neg (by decide), if_pos (by decide), c_let l hl24, if_neg (by decide), if_neg (by decide), if_neg (by decide), e_itsN hl24 (by omega)]; exact fld 6 (by omega)
      · obtain ⟨C', D', e1, e2, e3, e4⟩ := b_melts h hl
        rw [if_neg (by decide), if_neg (by decide), if_neg (by decide), if_neg (by decide), if_neg (by decide), if_neg (by decide), if_neg (by decide), if_pos (by decide), if_pos (by decide), e1, e2]
        exact ⟨_, _, _, rfl, rfl, Rel_scr h e3 e4⟩
      · obtain ⟨e1, e2⟩ := b_reads h hl
        rw [if_neg (by decide), if_neg (by decide), if_neg (by decide), if_neg (by decide), if_neg (by decide), if_neg (by decide), if_neg (by decide), if_neg (by decide), if_pos (by decide), c_let l hl24, if_neg (by decide), if_pos (by decide), e1, e2]
        exact ⟨_, _, _, rfl, rfl, h⟩
      · obtain ⟨C', D', e1, e2, e3, e4⟩ := b_sees h hl
        rw [if_neg (by decide), if_neg (by decide), if_neg (by decide), if_neg (by decide), if_neg (by decide), if_neg (by decide), if_neg (by decide), if_neg (by decide), if_neg (by decide), if_neg (by decide), if_neg (by decide), if_pos (by decide), e1, e2]
        exact ⟨_, _, _, rfl, rfl, Rel_scr h e3 e4⟩
    · rw [if_neg hk, if_neg hk]; exact err
  · rw [w1, w2, if_neg (by decide), if_neg (by decide)]; exact err
/-- a page's letters, as numbers -/
theorem Rel.pl {C D : Mm} (h : Rel C D) {p j : Nat} (hp : p < 4) (hj : j < nP (D 1) p) : ∃ l, l < nL (D 1) ∧ l < 24 ∧ D 1 (182 + 10 * p + j) = nI l ∧ D 1 (12 + 7 * l + 5) = nI p ∧ fX7_letterIn (nI p) (nI j) C = some (4 + 1 * l, C) ∧ shS (D 1) l = D 1 (181 + 10 * p) ∧ j < 8 := by
  have hpok := h.si.pag hp
  have hL := h.si.l24
  obtain ⟨l, b1, b2, b3⟩ := hpok.2.2.1 j hj
  have ec := h.rs.2.2.2.2.1 p hp
  rw [show 0 + 29 + 2 * p = 29 + 2 * p by omega, show 0 + 30 + 2 * p = 30 + 2 * p by omega] at ec
  have h8 := hpok.2.1
  refine ⟨l, b1, by omega, b2, b3, e_letterIn hp (ec.1.trans hpok.1) h8 hj ((ec.2 j hj).trans b2) (by omega), ?_, by omega⟩
  unfold shS
  rw [b3, if_neg (fun e => neg1_ne hp e.symm), ix_nI (by omega)]
theorem Rel.pn {C D : Mm} (h : Rel C D) {p : Nat} (hp : p < 4) : C (29 + 2 * p) 1 = nI (nP (D 1) p) ∧ D 1 (180 + 10 * p) = nI (nP (D 1) p) ∧ C 2 p = D 1 (181 + 10 * p) := by
  have ec := (h.rs.2.2.2.2.1 p hp).1
  rw [show 0 + 29 + 2 * p = 29 + 2 * p by omega] at ec
  have h2 := h.rs.2.2.1 p hp
  rw [show 0 + 2 = 2 from rfl] at h2
  exact ⟨ec.trans (h.si.pag hp).1, (h.si.pag hp).1, h2⟩
theorem min_sw (x y : Int32) : (if x < y then x else y) = if y ≤ x then y else x := by
  by_cases h : y ≤ x
  · rw [if_pos h, if_neg (i32_nlt.mpr h)]
  · rw [if_neg h, if_pos (i32_nle.mp h)]
theorem seen_loop {p : Nat} (hp : p < 4) : ∀ (m f1 f2 j : Nat) (least : Int32) (C D : Mm), m < f1 → m < f2 → Rel C D → j + m = nP (D 1) p → ∃ r C' D', fX7_seenOf_L5 (nI p) f1 (nI j) least C = some (r, C') ∧ fX10_seen_L5 (nI p) f2 (nI j) least D = some (r, D') ∧ ScC C C' ∧ ScM D D' := by
  intro m
  induction m with
  | zero =>
    intro f1 f2 j least C D h1 h2 h hj
    obtain ⟨g1, rfl⟩ : ∃ g, f1 = g + 1 := ⟨f1 - 1, by omega⟩
    obtain ⟨g2, rfl⟩ : ∃ g, f2 = g + 1 := ⟨f2 - 1, by omega⟩
    obtain ⟨p1, p2, p3⟩ := h.pn hp
    have h8 := (h.si.pag hp).2.1
    unfold fX7_seenOf_L5 fX10_seen_L5 fX7_seenOf_L5b fX10_seen_L5b fX7_seenOf_B45 fX10_seen_B48
    rw [inb_nI hp (by omega), gd_t, ix_nI (by omega), c_pag p hp, gd_t, p1, if_pos (nI_le (by omega) (by omega)), e_of0 hp, bd_s, p2, if_pos (nI_le (by omega) (by omega))]
    exact ⟨_, _, _, rfl, rfl, ScC.rf C, ScM.rf D⟩
  | succ m ih =>
    intro f1 f2 j least C D h1 h2 h hj
    obtain ⟨g1, rfl⟩ : ∃ g, f1 = g + 1 := ⟨f1 - 1, by omega⟩
    obtain ⟨g2, rfl⟩ : ∃ g, f2 = g + 1 := ⟨f2 - 1, by omega⟩
    obtain ⟨p1, p2, p3⟩ := h.pn hp
    have h8 := (h.si.pag hp).2.1
    obtain ⟨l, hl, hl24, b2, b3, b4, b5, b6⟩ := h.pl hp (j := j) (by omega)
    obtain ⟨C', D', e1, e2, e3, e4⟩ := b_sees h hl
    have h' := Rel_scr h e3 e4
    have eD : D' 1 = D 1 := e4 1 (by decide) (by decide)
    unfold fX7_seenOf_L5 fX10_seen_L5 fX7_seenOf_L5b fX10_seen_L5b fX10_seen_B41
    rw [inb_nI hp (by omega), gd_t, ix_nI (by omega), c_pag p hp, gd_t, p1, if_neg (nI_ge (by omega) (by omega)), e_of0 hp, bd_s, p2, if_neg (nI_ge (by omega) (by omega)), b4, bd_s, p3, ← b5, e1, bd_s, lt_e, e_ofR hp b6, bd_s, b2, e2, bd_s, min_sw, show nI j + 1 = nI (j + 1) from nI_1 j]
    obtain ⟨r, C2, D2, s1, s2, s3, s4⟩ := ih g1 g2 (j + 1) (if least ≤ seesL (D 1) (gS (D 1) l) (shS (D 1) l) then least else seesL (D 1) (gS (D 1) l) (shS (D 1) l)) C' D' (by omega) (by omega) h' (by rw [eD]; omega)
    refine ⟨r, C2, D2, s1, ?_, e3.tr s3, e4.tr s4⟩
    rw [← s2]
    by_cases hle : least ≤ seesL (D 1) (gS (D 1) l) (shS (D 1) l)
    · rw [if_pos hle, if_pos hle]
    · rw [if_neg hle, if_neg hle]
theorem b_seen {C D : Mm} (h : Rel C D) {p : Nat} (hp : p < 4) : ∃ r C' D', fX7_seenOf (nI p) C = some (r, C') ∧ fX10_seen (nI p) D = some (r, D') ∧ ScC C C' ∧ ScM D D' := by
  have hFU := FU_big
  have h8 := (h.si.pag hp).2.1
  exact seen_loop hp (nP (D 1) p) FU FU 0 9 C D (by omega) (by omega) h (by omega)
theorem op_pageIs {C D : Mm} (h : Rel C D) (a w : Int32) : Op (fX9_pageIs a w C) (fX10_pageIs a w D) := by
  have err : Op (fX9_pageIs_B17 C) (fX10_pageIs_B17 D) := by
    unfold fX9_pageIs_B17 fX10_pageIs_B17
    rw [e_ref1, e_err1]
    exact op_err h (by decide) (by decide)
  unfold fX9_pageIs fX10_pageIs
  rw [e_isPageC, e_isPage, bd_s, bd_s]
  by_cases hw : wi a 0 3 = true
  · obtain ⟨p, hp, rfl⟩ := wi3 hw
    obtain ⟨p1, p2, p3⟩ := h.pn hp
    have h8 := (h.si.pag hp).2.1
    rw [hw, if_pos rfl, if_pos rfl, e_isWithin, e_in, bd_s, bd_s]
    by_cases hk : wi w 0 10 = true
    · obtain ⟨q, hq, rfl⟩ := wi_in (n := 10) (by omega) hk
      rw [hk, if_pos rfl, if_pos rfl, inb_nI hp (by omega), gd_t, ix_nI (by omega)]
      unfold fX9_pageIs_B105 fX10_pageIs_B74
      rcases (show q = 0 ∨ q = 1 ∨ q = 2 ∨ 3 ≤ q by omega) with rfl | rfl | rfl | h3
      · rw [if_pos (by decide), c_pag p hp, gd_t, if_neg (by decide), if_neg (by decide), e_ofN hp (by omega), bd_s]
        exact ⟨_, _, _, rfl, by rw [p1]; rw [show 180 + 10 * p + 0 = 180 + 10 * p by omega, p2], h⟩
      · rw [if_neg (by decide), if_pos (by decide), if_neg (by decide), if_neg (by decide), e_ofN hp (by omega), bd_s]
        exact ⟨_, _, _, rfl, by rw [p3, show 180 + 10 * p + 1 = 181 + 10 * p by omega], h⟩
      · obtain ⟨r, C', D', s1, s2, s3, s4⟩ := b_seen h hp
        rw [if_neg (by decide), if_neg (by decide), if_pos (by decide), if_pos (by decide), s1, s2]
        exact ⟨_, _, _, rfl, rfl, Rel_scr h s3 s4⟩
      · have n0 : ¬ nI q = 0 := by rw [show (0 : Int32) = nI 0 from rfl, eq_nI (by omega) (by omega)]; omega
        have n1 : ¬ nI q = 1 := by rw [show (1 : Int32) = nI 1 from rfl, eq_nI (by omega) (by omega)]; omega
        have n2 : ¬ nI q = 2 := by rw [show (2 : Int32) = nI 2 from rfl, eq_nI (by omega) (by omega)]; omega
        have hsub : nI q - 3 = nI (q - 3) := pk_sub (b := 3) h3
        rw [if_neg n0, if_neg n1, if_neg n2, c_pag p hp, gd_t, if_neg n2, if_pos (show (2 : Int32) ≤ nI q from nI_le (a := 2) (by omega) (by omega)), e_of0 hp, bd_s, hsub, p1, p2]
        by_cases hle : nP (D 1) p ≤ q - 3
        · rw [if_pos (nI_le hle (by omega)), if_pos (nI_le hle (by omega))]
          exact ⟨_, _, _, rfl, rfl, h⟩
        · have hcap : aN layC (29 + 2 * p + 1) = 8 := by
            have := a_pag p hp
            rw [show 30 + 2 * p = 29 + 2 * p + 1 by omega] at this; exact this
          have e2 : ((2 : Int32) + nI q) - 3 = 2 + nI (q - 3) := by
            rw [show (2 : Int32) = nI 2 from rfl, nI_add, nI_add, show (3 : Int32) = nI 3 from rfl, pk_sub (by omega)]
            exact congrArg nI (by omega)
          rw [if_neg (nI_ge (by omega) (by omega)), if_neg (nI_ge (by omega) (by omega)), e_at (n := nP (D 1) p) (c_pag p hp) p1 (by omega) (by omega), bd_s, if_pos (by omega), e2, e_ofR hp (by omega), bd_s]
          have := (h.rs.2.2.2.2.1 p hp).2 (q - 3) (by omega)
          rw [show 0 + 30 + 2 * p = 29 + 2 * p + 1 by omega] at this
          exact ⟨_, _, _, rfl, by rw [this], h⟩
    · rw [if_neg hk, if_neg hk]; exact err
  · rw [if_neg hw, if_neg hw]; exact err
