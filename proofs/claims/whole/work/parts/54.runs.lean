/-! PURE 25: run, lost, then. -/
theorem Rel_aft {C C' D D' : Mm} (h : Rel C D) (hc : ScA C C') (he : EqS (D' 1) (D 1)) (hd : ∀ a, a ≠ 0 → a ≠ 1 → a ≠ 3 → a ≠ 6 → a ≠ 7 → a ≠ 9 → a ≠ 10 → a ≠ 11 → D' a = D a) (h0 : ∀ j, j ≠ 15 → j ≠ 16 → D' 0 j = D 0 j) : Rel C' D' := by
  refine Rel_now h (SI_congr he.sy h.si) (RS_congr he.sy h.si (RS_frame h.si (fun a ha => hc a (by unfold shc at ha; omega) (by unfold shc at ha; omega) (by unfold shc at ha; omega) (by unfold shc at ha; omega) (by unfold shc at ha; omega)) h.rs)) (fun a ha => hc a (by omega) (by omega) (by omega) (by omega) (by omega)) ⟨hd 2 (by omega) (by omega) (by omega) (by omega) (by omega) (by omega) (by omega) (by omega), hd 4 (by omega) (by omega) (by omega) (by omega) (by omega) (by omega) (by omega) (by omega), hd 12 (by omega) (by omega) (by omega) (by omega) (by omega) (by omega) (by omega) (by omega), hd 13 (by omega) (by omega) (by omega) (by omega) (by omega) (by omega) (by omega) (by omega), hd 14 (by omega) (by omega) (by omega) (by omega) (by omega) (by omega) (by omega) (by omega), hd 15 (by omega) (by omega) (by omega) (by omega) (by omega) (by omega) (by omega) (by omega), h0 3 (by omega) (by omega), h0 19 (by omega) (by omega)⟩
theorem gAll_pl {s0 : Sx} (h0 : SI s0) {p : Nat} (hp : p < 4) {a : Bool} {G : Nat → Nat → Int32} {t : Nat} (ht : t < nP s0 p) : gAll s0 p a G (pl s0 p t) = stL s0 a (G (pl s0 p t)) := by
  unfold gAll; rw [if_pos (h0.plx hp ht).2.2.1]
theorem hUp_s {H : Nat → Int32} {p : Nat} : hUp H p p = H p + 1 := by unfold hUp; rw [if_pos rfl]
theorem MS.eq {s0 s : Sx} (h0 : SI s0) (h : EqS s0 s) : MS s0 s (fun l f => s0 (12 + 7 * l + f)) (fun p => s0 (181 + 10 * p)) := by
  have hL := h0.l24
  exact ⟨SI_congr h h0, fun i hi _ => (h i hi).symm, fun l f hl hf => (h _ (by omega)).symm, fun p hp => (h _ (by omega)).symm, fun _ _ => rfl⟩
theorem m_run_loop {s0 : Sx} (h0 : SI s0) {p v : Nat} (hp : p < 4) (hv : v ≤ 999) : ∀ (m f j : Nat) (D : Mm) (G : Nat → Nat → Int32) (H : Nat → Int32), m < f → j + m = v → MS s0 (D 1) G H → ∃ D', fX10_runOf_L13 (nI p) (nI v) f (nI j) D = fX10_runOf_B33 (nI (j + rnF s0 (nP s0 p) m (fun t => G (pl s0 p t)) (H p))) D' ∧ ScD D D' := by
  intro m
  induction m with
  | zero =>
    intro f j D G H h1 hj h
    obtain ⟨g, rfl⟩ : ∃ g, f = g + 1 := ⟨f - 1, by omega⟩
    unfold fX10_runOf_L13 fX10_runOf_L13b
    rw [if_pos (nI_le (by omega) (by omega))]
    exact ⟨D, rfl, ScD.rf D⟩
  | succ m ih =>
    intro f j D G H h1 hj h
    obtain ⟨g, rfl⟩ : ∃ g, f = g + 1 := ⟨f - 1, by omega⟩
    obtain ⟨D1, e1, e2, e3⟩ := m_sheet1 h0 hp h
    unfold fX10_runOf_L13 fX10_runOf_L13b
    rw [if_neg (show ¬ nI v ≤ nI j from nI_ge (by omega) (by omega)), e1, bd_s]
    simp only [rnF]
    by_cases hlt : mnS s0 (fun t => G (pl s0 p t)) (H p) (nP s0 p) < 3
    · rw [if_pos hlt, if_neg (by decide), if_pos hlt]
      exact ⟨D1, rfl, e3⟩
    · rw [if_neg hlt, if_pos rfl, if_neg hlt, show nI j + 1 = nI (j + 1) from nI_1 j]
      obtain ⟨D', s1, s2⟩ := ih g (j + 1) D1 _ _ (by omega) (by omega) e2
      refine ⟨D', ?_, e3.tr s2⟩
      rw [s1, hUp_s, rnF_cg m _ (fun t => stL s0 true (G (pl s0 p t))) _ (fun t ht f hf => by rw [gAll_pl h0 hp ht])]
      rw [show j + 1 + rnF s0 (nP s0 p) m (fun t => stL s0 true (G (pl s0 p t))) (H p + 1) = j + (1 + rnF s0 (nP s0 p) m (fun t => stL s0 true (G (pl s0 p t))) (H p + 1)) by omega]
theorem m_runOf {s0 : Sx} (h0 : SI s0) {p v : Nat} (hp : p < 4) (hv : v ≤ 999) {D : Mm} {G : Nat → Nat → Int32} {H : Nat → Int32} (h : MS s0 (D 1) G H) : ∃ D', fX10_runOf (nI p) (nI v) D = some (nI (rnF s0 (nP s0 p) v (fun t => G (pl s0 p t)) (H p)), D') ∧ EqS (D' 1) (D 1) ∧ ∀ a, a ≠ 1 → a ≠ 3 → a ≠ 6 → a ≠ 7 → D' a = D a := by
  have hFU := FU_big
  obtain ⟨D1, e1, e2, e3⟩ := e_cy_1_3 D
  obtain ⟨D2, s1, s2⟩ := m_run_loop h0 hp hv v FU 0 D1 G H (by omega) (by omega) (by rw [e3 1 (by decide)]; exact h)
  obtain ⟨D3, t1, t2, t3⟩ := e_cy_3_1 D2
  rw [Nat.zero_add, show nI 0 = (0 : Int32) from rfl] at s1
  unfold fX10_runOf
  rw [e1, bd_s, s1]
  unfold fX10_runOf_B33
  rw [t1, bd_s]
  refine ⟨D3, rfl, ?_, fun a a1 a3 a6 a7 => by rw [t3 a a1, s2 a a1 a6 a7, e3 a a3]⟩
  have := s2 3 (by decide) (by decide) (by decide)
  rw [this] at t2
  exact t2.tr e2
theorem op_run {C D : Mm} (h : Rel C D) (a b : Int32) : Op (fX9_run a b C) (fX10_run a b D) := by
  have err : Op (fX9_run_B17 C) (fX10_run_B23 D) := by
    unfold fX9_run_B17 fX10_run_B23 fX10_run_B28
    rw [e_ref1, e_err1]
    exact op_err h (by decide) (by decide)
  unfold fX9_run fX10_run
  rw [e_isPageC, e_isPage, bd_s, bd_s]
  by_cases hw : wi a 0 3 = true
  · obtain ⟨p, hp, rfl⟩ := wi3 hw
    rw [hw, if_pos rfl, if_pos rfl, e_isWithin, e_isAhead, bd_s, bd_s]
    by_cases hk : wi b 0 99 = true
    · obtain ⟨v, hv, rfl⟩ := wi_in (n := 99) (by omega) hk
      obtain ⟨C1, e1, e2, e3⟩ := c_startp h.si hp h.rs.rv
      obtain ⟨C2, f1, f2⟩ := c_run h.si.tx (v := v) (by omega) e2
      obtain ⟨D1, g1, g2, g3⟩ := m_runOf h.si hp (v := v) (by omega) (MS.rf h.si)
      rw [hk, if_pos rfl, if_pos rfl, e1, bd_s, f1, bd_s, g1, bd_s]
      exact ⟨_, _, _, rfl, rfl, Rel_aft h (e3.tr f2) g2 (fun a _ a1 a3 a6 a7 _ _ _ => g3 a a1 a3 a6 a7) (fun j _ _ => by rw [g3 0 (by decide) (by decide) (by decide) (by decide)])⟩
    · rw [if_neg hk, if_neg hk]; exact err
  · rw [if_neg hw, if_neg hw]; exact err
-- one letter
theorem sees_le9 (s : Sx) (g : Nat → Int32) (sh : Int32) : seesL s g sh ≤ 9 := by
  unfold seesL readL
  split
  · exact (hd_b (by decide)).2
  · exact (hd_b (by decide)).2
theorem mnS1 (s : Sx) (gs : Nat → Nat → Int32) (sh : Int32) : mnS s gs sh 1 = seesL s (gs 0) sh := by
  show (if seesL s (gs 0) sh < 9 then seesL s (gs 0) sh else 9) = seesL s (gs 0) sh
  by_cases h : seesL s (gs 0) sh < 9
  · rw [if_pos h]
  · rw [if_neg h]
    have h1 := i32_nlt.mp h
    have h2 := sees_le9 s (gs 0) sh
    rw [Int32.le_iff_toInt_le] at h1 h2
    exact Int32.toInt_inj.mp (by omega)
theorem m_sees1 {s0 : Sx} (h0 : SI s0) {D : Mm} {G : Nat → Nat → Int32} {H : Nat → Int32} (h : MS s0 (D 1) G H) {l p : Nat} (hl : l < nL s0) (hp : p < 4) (he : s0 (12 + 7 * l + 5) = nI p) : ∃ D', fX10_sees (nI l) D = some (seesL s0 (G l) (H p), D') ∧ ScM D D' := by
  obtain ⟨D1, e1, e2⟩ := m_sees h.1 (show l < nL (D 1) by rw [h.nl]; exact hl)
  have e5 : D 1 (12 + 7 * l + 5) = nI p := by rw [h.2.2.1 _ 5 hl (by omega), h.2.2.2.2 _ hl, he]
  have esh : shS (D 1) l = H p := by
    unfold shS
    rw [e5, if_neg (fun e => neg1_ne hp e.symm), ix_nI (by omega), h.2.2.2.1 p hp]
  rw [esh, seesL_te h.te h0.tx, (L_congr (h.gs hl)).2.2.1] at e1
  exact ⟨D1, e1, e2⟩
theorem gAll_l {s0 : Sx} {p l : Nat} {a : Bool} {G : Nat → Nat → Int32} (he : s0 (12 + 7 * l + 5) = nI p) : gAll s0 p a G l = stL s0 a (G l) := by
  unfold gAll; rw [if_pos he]
theorem m_lost_loop {s0 : Sx} (h0 : SI s0) {l p : Nat} (hl : l < nL s0) (hp : p < 4) (he : s0 (12 + 7 * l + 5) = nI p) : ∀ (m f j : Nat) (D : Mm) (G : Nat → Nat → Int32) (H : Nat → Int32), m < f → j + m = 99 → MS s0 (D 1) G H → ∃ D', fX10_lost_L45 (nI p) (nI l) f (nI j) D = (if rnF s0 1 (m + 1) (fun _ => G l) (H p) ≤ m then fX10_lost_B87 (nI (j + rnF s0 1 (m + 1) (fun _ => G l) (H p))) 1 D' else fX10_lost_B87 (nI 99) 0 D') ∧ ScD D D' := by
  intro m
  induction m with
  | zero =>
    intro f j D G H h1 hj h
    obtain ⟨g, rfl⟩ : ∃ g, f = g + 1 := ⟨f - 1, by omega⟩
    obtain ⟨D1, e1, e2⟩ := m_sees1 h0 h hl hp he
    have ej : j = 99 := by omega
    subst ej
    unfold fX10_lost_L45 fX10_lost_L45b fX10_lost_B73
    rw [if_pos (by decide), e1, bd_s]
    simp only [rnF, mnS1]
    by_cases hlt : seesL s0 (G l) (H p) < 3
    · rw [if_neg (fun q => (i32_nlt.mpr q) hlt), if_pos hlt]
      exact ⟨D1, by rw [if_pos (Nat.le_refl 0)], e2.sd⟩
    · rw [if_pos (i32_nlt.mp hlt), if_neg hlt]
      exact ⟨D1, by rw [if_neg (by omega)], e2.sd⟩
  | succ m ih =>
    intro f j D G H h1 hj h
    obtain ⟨g, rfl⟩ : ∃ g, f = g + 1 := ⟨f - 1, by omega⟩
    obtain ⟨D1, e1, e2⟩ := m_sees1 h0 h hl hp he
    have eD : D1 1 = D 1 := e2 1 (by decide) (by decide)
    have h1' : MS s0 (D1 1) G H := by rw [eD]; exact h
    unfold fX10_lost_L45 fX10_lost_L45b fX10_lost_B73
    rw [if_neg (show ¬ (99 : Int32) ≤ nI j from nI_ge (b := 99) (by omega) (by omega)), e1, bd_s]
    rw [show rnF s0 1 (m + 1 + 1) (fun _ => G l) (H p) = if mnS s0 (fun _ => G l) (H p) 1 < 3 then 0 else 1 + rnF s0 1 (m + 1) (fun _ => stL s0 true (G l)) (H p + 1) from rfl, mnS1]
    by_cases hlt : seesL s0 (G l) (H p) < 3
    · obtain ⟨D2, f1, f2⟩ := m_sees1 h0 h1' hl hp he
      rw [if_pos hlt, if_pos hlt, f1, bd_s, if_neg (fun q => (i32_nlt.mpr q) hlt)]
      exact ⟨D2, by rw [if_pos (by omega), Nat.add_zero], (e2.tr f2).sd⟩
    · obtain ⟨D2, f1, f2, f3⟩ := m_sheet1 h0 hp h1'
      rw [if_neg hlt, if_neg hlt, f1, bd_s, show nI j + 1 = nI (j + 1) from nI_1 j]
      obtain ⟨D', s1, s2⟩ := ih g (j + 1) D2 _ _ (by omega) (by omega) f2
      rw [gAll_l he, hUp_s] at s1
      refine ⟨D', ?_, (e2.sd.tr f3).tr s2⟩
      rw [s1]
      by_cases hle : rnF s0 1 (m + 1) (fun _ => stL s0 true (G l)) (H p + 1) ≤ m
      · rw [if_pos hle, if_pos (by omega), show j + 1 + rnF s0 1 (m + 1) (fun _ => stL s0 true (G l)) (H p + 1) = j + (1 + rnF s0 1 (m + 1) (fun _ => stL s0 true (G l)) (H p + 1)) by omega]
      · rw [if_neg hle, if_neg (by omega)]
theorem op_lost {C D : Mm} (h : Rel C D) (a : Int32) : Op (fX9_lost a C) (fX10_lost a D) := by
  have hFU := FU_big
  unfold fX9_lost fX10_lost
  rw [e_hasLetter, e_isLetter, bd_s, bd_s]
  rcases two_let h a with ⟨l, hl, hl24, rfl, w1, w2⟩ | ⟨w1, w2⟩
  · rw [w1, w2, if_pos rfl, if_pos rfl, inb_nI hl24 (by omega), gd_t, ix_nI (by omega), c_let l hl24, gd_t, h.rs.let hl (f := 5) (by omega), e_its5 hl24, bd_s]
    rcases (h.si.2.2.1 l hl).2.2.2.2.2.1 with hp | ⟨p, hp4, hp⟩
    · rw [hp, if_neg (by decide), if_pos rfl, e_ref3, e_err3]
      exact op_err h (by decide) (by decide)
    · have esh : shS (D 1) l = D 1 (181 + 10 * p) := by
        unfold shS
        rw [hp, if_neg (fun e => neg1_ne hp4 e.symm), ix_nI (by omega)]
      obtain ⟨C1, e1, e2, e3⟩ := c_startl h.si hl h.rs.rv
      rw [esh] at e2
      obtain ⟨C2, f1, f2⟩ := c_run h.si.tx (v := 100) (by omega) e2
      obtain ⟨D1, g1, g2, g3⟩ := e_cy_1_3 D
      obtain ⟨D2, s1, s2⟩ := m_lost_loop h.si hl hp4 hp 99 FU 0 D1 _ _ (by omega) (by omega) (by rw [g3 1 (by decide)]; exact MS.rf h.si)
      obtain ⟨D3, t1, t2, t3⟩ := e_cy_3_1 D2
      have hrel : Rel C2 D3 := by
        refine Rel_aft h (e3.tr f2) ?_ (fun a _ a1 a3 a6 a7 _ _ _ => by rw [t3 a a1, s2 a a1 a6 a7, g3 a a3]) (fun j _ _ => by rw [t3 0 (by decide), s2 0 (by decide) (by decide) (by decide), g3 0 (by decide)])
        have := s2 3 (by decide) (by decide) (by decide)
        rw [this] at t2
        exact t2.tr g2
      rw [hp, if_pos (nI_pos' (by omega)), if_neg (fun e => neg1_ne hp4 e.symm), e1, bd_s, show (100 : Int32) = nI 100 from rfl, f1, bd_s, g1, bd_s]
      rw [show nI 0 = (0 : Int32) from rfl, Nat.zero_add] at s1
      rw [s1]
      unfold fX10_lost_B87 fX9_lost_B76 fX10_lost_B114
      rw [t1, bd_s, bd_s]
      have hle := rnF_le (s := D 1) (n := 1) 100 (fun _ => gS (D 1) l) (D 1 (181 + 10 * p))
      show Op (if (99 : Int32) < nI (rnF (D 1) 1 100 (fun _ => gS (D 1) l) (D 1 (181 + 10 * p))) then _ else _) (if rnF (D 1) 1 100 (fun _ => gS (D 1) l) (D 1 (181 + 10 * p)) ≤ 99 then _ else _)
      by_cases hr : rnF (D 1) 1 100 (fun _ => gS (D 1) l) (D 1 (181 + 10 * p)) ≤ 99
      · rw [if_neg (show ¬ (99 : Int32) < _ from nI_nlt (a := 99) hr (by omega)), if_pos hr, if_neg (by decide)]
        exact ⟨_, _, _, rfl, rfl, hrel⟩
      · rw [if_pos (show (99 : Int32) < _ from nI_lt (a := 99) (by omega) (by omega)), if_neg hr, if_pos rfl, e_ref2, e_err2]
        exact op_err hrel (by decide) (by decide)
  · rw [w1, w2, if_neg (by decide), if_neg (by decide), e_ref1, e_err1]
    exact op_err h (by decide) (by decide)
-- then
theorem then_fact {s0 : Sx} (h0 : SI s0) {l p q : Nat} (hl : l < nL s0) (hp : p < 4) (he : s0 (12 + 7 * l + 5) = nI p) (hq : q ≤ 9) {C D : Mm} {G : Nat → Nat → Int32} {H : Nat → Int32} (ha : AC C s0 1 (fun _ => G l) (H p)) (h : MS s0 (D 1) G H) : ∃ r C' D', fX7_factOf (138 + 1 * 0) (C 136 3) (nI q) C = some (r, C') ∧ fX10_toldLetter (nI l) (nI q) D = some (r, D') ∧ ScC C C' ∧ ScM D D' := by
  have hL := h0.l24
  have hl24 : l < 24 := by omega
  obtain ⟨a1, a2, a3, a4, a5⟩ := ha
  obtain ⟨g1, g2⟩ := a5 0 (by omega)
  have hlg : LG (C (138 + 1 * 0)) := (L_congr (fun f hf => (g2 f hf).symm)).2.2.2 g1
  have hlm : LG (gS (D 1) l) := (h.1.2.2.1 l (by rw [h.nl]; exact hl)).lg
  have fld : ∀ f : Nat, f < 7 → C (138 + 1 * 0) f = D 1 (12 + 7 * l + f) := fun f hf => by rw [g2 f hf, h.2.2.1 l f hl hf]
  unfold fX7_factOf fX10_toldLetter fX10_toldLetter_B48
  rw [c_ahl 0 (by omega)]
  rcases (show q = 0 ∨ q = 1 ∨ q = 2 ∨ q = 3 ∨ q = 4 ∨ q = 5 ∨ q = 6 ∨ q = 7 ∨ q = 8 ∨ q = 9 by omega) with rfl | rfl | rfl | rfl | rfl | rfl | rfl | rfl | rfl | rfl
  · rw [if_pos (by decide), gd_t, if_neg (by decide), if_neg (by decide), if_neg (by decide), e_itsN hl24 (by omega), bd_s]; exact ⟨_, _, _, rfl, by rw [fld 0 (by omega)], ScC.rf C, ScM.rf D⟩
  · rw [if_neg (by decide), if_pos (by decide), gd_t, if_neg (by decide), if_neg (by decide), if_neg (by decide), e_itsN hl24 (by omega), bd_s]; exact ⟨_, _, _, rfl, by rw [fld 1 (by omega)], ScC.rf C, ScM.rf D⟩
  · rw [if_neg (by decide), if_neg (by decide), if_pos (by decide), gd_t, if_neg (by decide), if_neg (by decide), if_neg (by decide), e_itsN hl24 (by omega), bd_s]; exact ⟨_, _, _, rfl, by rw [fld 2 (by omega)], ScC.rf C, ScM.rf D⟩
  · rw [if_neg (by decide), if_neg (by decide), if_neg (by decide), if_pos (by decide), gd_t, if_neg (by decide), if_neg (by decide), if_neg (by decide), e_itsN hl24 (by omega), bd_s]; exact ⟨_, _, _, rfl, by rw [fld 3 (by omega)], ScC.rf C, ScM.rf D⟩
  · rw [if_neg (by decide), if_neg (by decide), if_neg (by decide), if_neg (by decide), if_pos (by decide), gd_t, if_neg (by decide), if_neg (by decide), if_neg (by decide), e_itsN hl24 (by omega), bd_s]; exact ⟨_, _, _, rfl, by rw [fld 4 (by omega)], ScC.rf C, ScM.rf D⟩
  · rw [if_neg (by decide), if_neg (by decide), if_neg (by decide), if_neg (by decide), if_neg (by decide), if_pos (by decide), gd_t, if_neg (by decide), if_neg (by decide), if_neg (by decide), e_itsN hl24 (by omega), bd_s]; exact ⟨_, _, _, rfl, by rw [fld 5 (by omega)], ScC.rf C, ScM.rf D⟩
  · rw [if_neg (by decide), if_neg (by decide), if_neg (by decide), if_neg (by decide), if_neg (by decide), if_neg (by decide), if_pos (by decide), gd_t, if_neg (by decide), if_neg (by decide), if_neg (by decide), e_itsN hl24 (by omega), bd_s]; exact ⟨_, _, _, rfl, by rw [fld 6 (by omega)], ScC.rf C, ScM.rf D⟩
  · obtain ⟨r, C', e1, e2, e3⟩ := o_meltsC (c_ahl 0 (by omega)) a1 h0.tx hlg
    obtain ⟨r2, D', f1, f2, f3⟩ := o_meltsM hl24 h.1.tx hlm
    rw [(L_congr g2).1] at e2
    rw [meltL_te h.te h0.tx hlm, (L_congr (h.gs hl)).1] at f2
    rw [if_neg (by decide), if_neg (by decide), if_neg (by decide), if_neg (by decide), if_neg (by decide), if_neg (by decide), if_neg (by decide), if_pos (by decide), if_pos (by decide), e1, f1, e2, f2]
    exact ⟨_, _, _, rfl, rfl, e3, f3⟩
  · rw [if_neg (by decide), if_neg (by decide), if_neg (by decide), if_neg (by decide), if_neg (by decide), if_neg (by decide), if_neg (by decide), if_neg (by decide), if_pos (by decide), gd_t, if_neg (by decide), if_pos (by decide), e_readsC (c_ahl 0 (by omega)) hlg, e_readsM hl24 hlm, (L_congr g2).2.1, (L_congr (h.gs hl)).2.1]
    exact ⟨_, _, _, rfl, rfl, ScC.rf C, ScM.rf D⟩
  · obtain ⟨r, C', e1, e2, e3⟩ := o_seesC (C 136 3) (c_ahl 0 (by omega)) a1 h0.tx hlg
    obtain ⟨D', f1, f2⟩ := m_sees1 h0 h hl hp he
    rw [(L_congr g2).2.2.1, a4] at e2
    rw [if_neg (by decide), if_neg (by decide), if_neg (by decide), if_neg (by decide), if_neg (by decide), if_neg (by decide), if_neg (by decide), if_neg (by decide), if_neg (by decide), if_neg (by decide), if_neg (by decide), if_pos (by decide), e1, f1, e2]
    exact ⟨_, _, _, rfl, rfl, e3, f2⟩
theorem then_loop {s0 : Sx} (h0 : SI s0) {l p q v : Nat} (hl : l < nL s0) (hp : p < 4) (he : s0 (12 + 7 * l + 5) = nI p) (hq : q ≤ 9) (hv : v ≤ 99) : ∀ (m f1 f2 j : Nat) (C D : Mm) (G : Nat → Nat → Int32) (H : Nat → Int32), m < f1 → m < f2 → j + m = v → AC C s0 1 (fun _ => G l) (H p) → MS s0 (D 1) G H → ∃ r C' D', fX9_then_L76 (nI v) (nI q) f1 (nI j) C = some (r, C') ∧ fX10_then_L61 (nI l) (nI v) (nI q) f2 (nI j) D = some (r, D') ∧ ScA C C' ∧ EqS (D' 1) (D 3) ∧ ScD D D' := by
  have hL := h0.l24
  intro m
  induction m with
  | zero =>
    intro f1 f2 j C D G H h1 h2 hj ha h
    obtain ⟨g1, rfl⟩ : ∃ g, f1 = g + 1 := ⟨f1 - 1, by omega⟩
    obtain ⟨g2, rfl⟩ : ∃ g, f2 = g + 1 := ⟨f2 - 1, by omega⟩
    obtain ⟨r, C1, D1, e1, e2, e3, e4⟩ := then_fact h0 hl hp he hq ha h
    obtain ⟨D2, t1, t2, t3⟩ := e_cy_3_1 D1
    unfold fX9_then_L76 fX10_then_L61 fX9_then_L76b fX10_then_L61b fX9_then_B95 fX10_then_B85
    rw [if_pos (nI_le (by omega) (by omega)), if_pos (nI_le (by omega) (by omega)), show inb 0 8 = true by decide, gd_t, ix_lit0, e1, bd_s, e2, bd_s, t1, bd_s]
    exact ⟨r, C1, D2, rfl, rfl, e3.sa, by rw [e4 3 (by decide) (by decide)] at t2; exact t2, fun a a1 a6 a7 => by rw [t3 a a1, e4 a a6 a7]⟩
  | succ m ih =>
    intro f1 f2 j C D G H h1 h2 hj ha h
    obtain ⟨g1, rfl⟩ : ∃ g, f1 = g + 1 := ⟨f1 - 1, by omega⟩
    obtain ⟨g2, rfl⟩ : ∃ g, f2 = g + 1 := ⟨f2 - 1, by omega⟩
    obtain ⟨C1, e1, e2, e3⟩ := c_pass h0.tx ha
    obtain ⟨D1, f1, f2, f3⟩ := m_sheet1 h0 hp h
    have e5 : D 1 (12 + 7 * l + 5) = nI p := by rw [h.2.2.1 _ 5 hl (by omega), h.2.2.2.2 _ hl, he]
    unfold fX9_then_L76 fX10_then_L61 fX9_then_L76b fX10_then_L61b
    rw [if_neg (show ¬ nI v ≤ nI j from nI_ge (by omega) (by omega)), if_neg (show ¬ nI v ≤ nI j from nI_ge (by omega) (by omega)), e1, bd_s, e_its5 (by omega), bd_s, e5, f1, bd_s, show nI j + 1 = nI (j + 1) from nI_1 j]
    obtain ⟨r, C', D', s1, s2, s3, s4, s5⟩ := ih g1 g2 (j + 1) C1 D1 _ _ (by omega) (by omega) (by omega) (by rw [gAll_l he, hUp_s]; exact e2) f2
    exact ⟨r, C', D', s1, s2, e3.tr s3, by rw [f3 3 (by decide) (by decide) (by decide)] at s4; exact s4, f3.tr s5⟩
theorem op_then {C D : Mm} (h : Rel C D) (a b c : Int32) : Op (fX9_then a b c C) (fX10_then a b c D) := by
  have hFU := FU_big
  have err : Op (fX9_then_B31 C) (fX10_then_B25 D) := by
    unfold fX9_then_B31 fX10_then_B25
    rw [e_ref1, e_err1]
    exact op_err h (by decide) (by decide)
  unfold fX9_then fX10_then
  rw [e_hasLetter, e_isLetter, bd_s, bd_s]
  rcases two_let h a with ⟨l, hl, hl24, rfl, w1, w2⟩ | ⟨w1, w2⟩
  · rw [w1, w2, if_pos rfl, if_pos rfl, e_isWithin, e_isAhead, bd_s, bd_s]
    by_cases hk : wi b 0 99 = true
    · obtain ⟨v, hv, rfl⟩ := wi_in (n := 99) (by omega) hk
      rw [hk, if_pos rfl, if_pos rfl, e_isWithin, e_in, bd_s, bd_s]
      by_cases hk2 : wi c 0 9 = true
      · obtain ⟨q, hq, rfl⟩ := wi_in (n := 9) (by omega) hk2
        rw [hk2, if_pos rfl, if_pos rfl, inb_nI hl24 (by omega), gd_t, ix_nI (by omega), c_let l hl24, gd_t, h.rs.let hl (f := 5) (by omega), e_its5 hl24, bd_s]
        rcases (h.si.2.2.1 l hl).2.2.2.2.2.1 with hp | ⟨p, hp4, hp⟩
        · rw [hp, if_neg (by decide), if_pos rfl, e_ref3, e_err3]
          exact op_err h (by decide) (by decide)
        · have esh : shS (D 1) l = D 1 (181 + 10 * p) := by
            unfold shS
            rw [hp, if_neg (fun e => neg1_ne hp4 e.symm), ix_nI (by omega)]
          obtain ⟨C1, e1, e2, e3⟩ := c_startl h.si hl h.rs.rv
          rw [esh] at e2
          obtain ⟨D1, g1, g2, g3⟩ := e_cy_1_3 D
          obtain ⟨r, C2, D2, s1, s2, s3, s4, s5⟩ := then_loop h.si hl hp4 hp hq hv v FU FU 0 C1 D1 (fun l f => D 1 (12 + 7 * l + f)) (fun p => D 1 (181 + 10 * p)) (by omega) (by omega) (by omega) e2 (by rw [g3 1 (by decide)]; exact MS.rf h.si)
          rw [show nI 0 = (0 : Int32) from rfl] at s1 s2
          rw [hp, if_pos (nI_pos' (by omega)), if_neg (fun e => neg1_ne hp4 e.symm), e1, bd_s, s1, g1, bd_s, s2]
          exact ⟨_, _, _, rfl, rfl, Rel_aft h (e3.tr s3) (s4.tr g2) (fun a _ a1 a3 a6 a7 _ _ _ => by rw [s5 a a1 a6 a7, g3 a a3]) (fun j _ _ => by rw [s5 0 (by decide) (by decide) (by decide), g3 0 (by decide)])⟩
      · rw [if_neg hk2, if_neg hk2]; exact err
    · rw [if_neg hk, if_neg hk]; exact err
  · rw [w1, w2, if_neg (by decide), if_neg (by decide)]; exact err
