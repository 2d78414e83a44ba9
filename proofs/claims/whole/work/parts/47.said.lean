/-! PURE 18: said, decree, word. -/
theorem sees_nn (s : Sx) (g : Nat → Int32) (sh : Int32) : 0 ≤ seesL s g sh := by
  unfold seesL readL
  split
  · exact (hd_b (by decide)).1
  · exact (hd_b (by decide)).1
theorem i32_le0 {x : Int32} (h : 0 ≤ x) : (x ≤ 0) = (x = 0) := by
  apply propext
  constructor
  · intro h2
    rw [Int32.le_iff_toInt_le] at h h2
    exact Int32.toInt_inj.mp (by omega)
  · intro e; rw [e]; exact Int32.le_refl 0
theorem glyph_back {g : Nat} (h1 : 1 ≤ g) (h2 : g ≤ 26) : ((nI g + 96) - 97) + 1 = nI g := by
  rw [show (96 : Int32) = nI 96 from rfl, nI_add, show (97 : Int32) = nI 97 from rfl, pk_sub (by omega), show (1 : Int32) = nI 1 from rfl, nI_add]
  exact congrArg nI (by omega)
theorem say_loop {p w n : Nat} (hp : p < 4) (hw8 : w < 8) : ∀ (m f1 f2 j : Nat) (C D : Mm), m < f1 → m + 1 < f2 → Rel C D → w < nW (D 1) → nV (D 1) w = n → nP (D 1) p = n → j + m = n → ∃ r C' D', fX7_mayHaveSaid_L23 (nI n) (nI p) (48 + 2 * w) f1 (nI j) C = some (r, C') ∧ fX10_maySay_L34 (nI (220 + 9 * w)) (nI p) f2 (nI j) 1 D = some (r, D') ∧ ScC C C' ∧ ScM D D' := by
  intro m
  induction m with
  | zero =>
    intro f1 f2 j C D h1 h2 h hw en ep hj
    obtain ⟨g1, rfl⟩ : ∃ g, f1 = g + 1 := ⟨f1 - 1, by omega⟩
    obtain ⟨g2, rfl⟩ : ∃ g, f2 = g + 1 := ⟨f2 - 1, by omega⟩
    obtain ⟨p1, p2, p3⟩ := h.pn hp
    have h8 := (h.si.pag hp).2.1
    unfold fX7_mayHaveSaid_L23 fX10_maySay_L34 fX7_mayHaveSaid_L23b fX10_maySay_L34b fX7_mayHaveSaid_B78 fX10_maySay_B104
    rw [if_pos (nI_le (by omega) (by omega)), e_of0 hp, bd_s, p2, if_pos (nI_le (by omega) (by omega)), show isb 1 = true by decide, gd_t]
    exact ⟨_, _, _, rfl, rfl, ScC.rf C, ScM.rf D⟩
  | succ m ih =>
    intro f1 f2 j C D h1 h2 h hw en ep hj
    obtain ⟨g1, rfl⟩ : ∃ g, f1 = g + 1 := ⟨f1 - 1, by omega⟩
    obtain ⟨g2, rfl⟩ : ∃ g, f2 = g + 1 := ⟨f2 - 1, by omega⟩
    obtain ⟨p1, p2, p3⟩ := h.pn hp
    have h8 := (h.si.pag hp).2.1
    obtain ⟨l, hl, hl24, b2, b3, b4, b5, b6⟩ := h.pl hp (j := j) (by omega)
    obtain ⟨C', D', e1, e2, e3, e4⟩ := b_sees h hl
    have h' := Rel_scr h e3 e4
    have hM := Rel_scr h (ScC.rf C) e4
    have eD : D' 1 = D 1 := e4 1 (by decide) (by decide)
    obtain ⟨g, v1, v2, v3⟩ := (h.si.2.2.2.2.1 w hw).2.2.2 j (by omega)
    have ew := h.rs.2.2.2.2.2.1.2 w hw
    rw [show 0 + 48 + 2 * w = 48 + 2 * w by omega, show 0 + 49 + 2 * w = 48 + 2 * w + 1 by omega] at ew
    have ewn : C (48 + 2 * w) 1 = nI n := by rw [ew.1, (h.si.2.2.2.2.1 w hw).1, en]
    have hcap : aN layC (48 + 2 * w + 1) = 8 := by
      have := a_wrd w hw8
      rw [show 49 + 2 * w = 48 + 2 * w + 1 by omega] at this; exact this
    unfold fX7_mayHaveSaid_L23 fX10_maySay_L34 fX7_mayHaveSaid_L23b fX10_maySay_L34b fX7_mayHaveSaid_B72 fX7_mayHaveSaid_B70 fX10_maySay_B91 fX10_maySay_B96
    rw [if_neg (show ¬ nI n ≤ nI j from nI_ge (by omega) (by omega)), b4, bd_s, c_let l hl24, gd_t, c_wrd w hw8, gd_t, e_at (n := n) (c_wrd w hw8) ewn (by omega) (by omega), bd_s, if_pos (show j < n by omega), ew.2 j (by omega), v3]
    unfold fX9_glyphOf
    rw [bd_s, glyph_back v1 v2, h.rs.let hl (f := 2) (by omega), inb_nI hp (by omega), gd_t, ix_nI (by omega), p3, ← b5, e1, bd_s]
    rw [e_of0 hp, bd_s, p2, if_neg (show ¬ nI (nP (D 1) p) ≤ nI j from nI_ge (by omega) (by omega)), if_neg (show ¬ (1 : Int32) = 0 by decide), e_ofR hp b6, bd_s, b2, e2, bd_s, e_its2 hl24, bd_s, eD, show (nI (220 + 9 * w) + 1) + nI j = nI (221 + 9 * w + j) by
      rw [show (1 : Int32) = nI 1 from rfl, nI_add, nI_add]; exact congrArg nI (by omega), inb_nI (by omega) (by omega), gd_t, ix_nI (by omega), v3, show nI j + 1 = nI (j + 1) from nI_1 j]
    by_cases hg : D 1 (12 + 7 * l + 2) = nI g
    · rw [if_pos hg, if_pos hg, ite_self]
      obtain ⟨r, C2, D2, s1, s2, s3, s4⟩ := ih g1 g2 (j + 1) C D' (by omega) (by omega) hM (by rw [eD]; exact hw) (by rw [eD]; exact en) (by rw [eD]; exact ep) (by omega)
      exact ⟨r, C2, D2, s1, s2, s3, e4.tr s4⟩
    · rw [if_neg hg, if_neg hg]
      by_cases h0 : seesL (D 1) (gS (D 1) l) (shS (D 1) l) = 0
      · rw [if_pos (show seesL (D 1) (gS (D 1) l) (shS (D 1) l) ≤ 0 by rw [h0]; exact Int32.le_refl 0), if_pos h0]
        obtain ⟨r, C2, D2, s1, s2, s3, s4⟩ := ih g1 g2 (j + 1) C' D' (by omega) (by omega) h' (by rw [eD]; exact hw) (by rw [eD]; exact en) (by rw [eD]; exact ep) (by omega)
        exact ⟨r, C2, D2, s1, s2, e3.tr s3, e4.tr s4⟩
      · rw [if_neg (show ¬ seesL (D 1) (gS (D 1) l) (shS (D 1) l) ≤ 0 from fun q => h0 ((i32_le0 (sees_nn _ _ _)).mp q)), if_neg h0]
        obtain ⟨g3, rfl⟩ : ∃ g, g2 = g + 1 := ⟨g2 - 1, by omega⟩
        unfold fX10_maySay_L34 fX10_maySay_L34b fX10_maySay_B104
        rw [e_of0 hp, bd_s, if_pos (show (0 : Int32) = 0 from rfl), ite_self, show isb 0 = true by decide, gd_t]
        exact ⟨_, _, _, rfl, rfl, e3, e4⟩
theorem b_say {C D : Mm} (h : Rel C D) {p w : Nat} (hp : p < 4) (hw : w < nW (D 1)) : ∃ r C' D', fX7_mayHaveSaid (nI p) (48 + 2 * w) C = some (r, C') ∧ fX10_maySay (nI p) (nI w) D = some (r, D') ∧ ScC C C' ∧ ScM D D' := by
  have hFU := FU_big
  have hW := h.si.1.2.1.2
  have hw8 : w < 8 := by omega
  obtain ⟨p1, p2, p3⟩ := h.pn hp
  have h8 := (h.si.pag hp).2.1
  have hwok := h.si.2.2.2.2.1 w hw
  have ew := h.rs.2.2.2.2.2.1.2 w hw
  rw [show 0 + 48 + 2 * w = 48 + 2 * w by omega] at ew
  have h88 := hwok.2.2.1
  unfold fX7_mayHaveSaid fX10_maySay fX10_maySay_B29
  rw [inb_nI hp (by omega), gd_t, ix_nI (by omega), c_pag p hp, gd_t, lt_e, p1, c_wrd w hw8, gd_t, ew.1, lt_e, show (220 : Int32) + (9 : Int32) * nI w = nI (220 + 9 * w) by rw [← nI_add, ← pk_mul]; rfl, inb_nI (by omega) (by omega), gd_t, e_of0 hp, bd_s, p2, ix_nI (by omega), hwok.1]
  by_cases e : nV (D 1) w = nP (D 1) p
  · rw [if_pos (by rw [e]), if_pos (by rw [e])]
    have := say_loop hp hw8 (nP (D 1) p) FU FU 0 C D (by omega) (by omega) h hw e rfl (by omega)
    exact this
  · have ne : ¬ nI (nV (D 1) w) = nI (nP (D 1) p) := by rw [eq_nI (by omega) (by omega)]; exact e
    rw [if_neg ne, if_neg ne]
    obtain ⟨g, hg⟩ : ∃ g, FU = g + 1 := ⟨FU - 1, by omega⟩
    rw [hg]
    unfold fX10_maySay_L34 fX10_maySay_L34b fX10_maySay_B104
    rw [e_of0 hp, bd_s, if_pos (show (0 : Int32) = 0 from rfl), ite_self, show isb 0 = true by decide, gd_t]
    exact ⟨_, _, _, rfl, rfl, ScC.rf C, ScM.rf D⟩
theorem said_loop {p : Nat} (hp : p < 4) : ∀ (m f1 f2 j : Nat) (v : Int32) (C D : Mm), m < f1 → m < f2 → Rel C D → j + m = nW (D 1) → Op (fX9_said_L18 (nI p) f1 (nI j) v C) (fX10_said_L17 (nI p) f2 (nI j) v D) := by
  intro m
  induction m with
  | zero =>
    intro f1 f2 j v C D h1 h2 h hj
    obtain ⟨g1, rfl⟩ : ∃ g, f1 = g + 1 := ⟨f1 - 1, by omega⟩
    obtain ⟨g2, rfl⟩ : ∃ g, f2 = g + 1 := ⟨f2 - 1, by omega⟩
    have hW := h.si.1.2.1
    unfold fX9_said_L18 fX10_said_L17 fX9_said_L18b fX10_said_L17b fX9_said_B61 fX10_said_B52
    rw [h.rs.1.2.2.2.2.2, ix_lit1, hW.1, if_pos (nI_le (by omega) (by omega)), if_pos (nI_le (by omega) (by omega))]
    exact ⟨_, _, _, rfl, rfl, h⟩
  | succ m ih =>
    intro f1 f2 j v C D h1 h2 h hj
    obtain ⟨g1, rfl⟩ : ∃ g, f1 = g + 1 := ⟨f1 - 1, by omega⟩
    obtain ⟨g2, rfl⟩ : ∃ g, f2 = g + 1 := ⟨f2 - 1, by omega⟩
    have hW := h.si.1.2.1
    obtain ⟨r, C', D', e1, e2, e3, e4⟩ := b_say h hp (w := j) (by omega)
    have h' := Rel_scr h e3 e4
    have eD : D' 1 = D 1 := e4 1 (by decide) (by decide)
    have hj8 : j < 8 := by omega
    unfold fX9_said_L18 fX10_said_L17 fX9_said_L18b fX10_said_L17b fX9_said_B55 fX10_said_B44
    rw [h.rs.1.2.2.2.2.2, ix_lit1, hW.1, if_neg (show ¬ nI (nW (D 1)) ≤ nI j from nI_ge (by omega) (by omega)), if_neg (show ¬ nI (nW (D 1)) ≤ nI j from nI_ge (by omega) (by omega)), inb_nI hj8 (by omega), gd_t, ix_nI (by omega), e1, e2, bd_s, bd_s, lt_e, lt_e, lt_e, Int32.or_zero, show nI j + 1 = nI (j + 1) from nI_1 j]
    have go := fun v => ih g1 g2 (j + 1) v C' D' (by omega) (by omega) h' (by rw [eD]; omega)
    cases r with
    | true => rw [if_pos rfl, if_pos rfl]; exact go _
    | false => rw [if_neg (by decide), if_neg (by decide)]; exact go _
theorem op_said {C D : Mm} (h : Rel C D) (a : Int32) : Op (fX9_said a C) (fX10_said a D) := by
  have hFU := FU_big
  have hW := h.si.1.2.1
  unfold fX9_said fX10_said
  rw [e_isPageC, e_isPage, bd_s, bd_s]
  by_cases hw : wi a 0 3 = true
  · obtain ⟨p, hp, rfl⟩ := wi3 hw
    rw [hw, if_pos rfl, if_pos rfl]
    exact said_loop hp (nW (D 1)) FU FU 0 0 C D (by omega) (by omega) h (by omega)
  · rw [if_neg hw, if_neg hw, e_ref1, e_err1]
    exact op_err h (by decide) (by decide)
