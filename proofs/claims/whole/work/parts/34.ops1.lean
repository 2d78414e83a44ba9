/-! PURE 5: the simplest calls. -/
theorem bi_t : bi true = 1 := rfl
theorem bi_f : bi false = 0 := rfl
theorem wiR {a : Int32} {lo hi : Nat} (hh : hi < 2 ^ 31) (h : wi a (nI lo) (nI hi) = true) (hlo : lo ≤ hi) : ∃ k, lo ≤ k ∧ k ≤ hi ∧ a = nI k := by
  simp only [wi, Bool.and_eq_true, decide_eq_true_eq] at h
  have h0 : (0 : Int32) ≤ nI lo := nI_pos' (by omega)
  have h0a : ¬ a < 0 := by
    rw [i32_nlt]
    rw [Int32.le_iff_toInt_le] at *
    omega
  obtain ⟨j, h1, h2⟩ := nI_of2 (nI_toInt hh) h0a h.2
  subst h2
  have := h.1
  rw [le_nI (by omega) (by omega)] at this
  exact ⟨j, this, h1, rfl⟩
theorem op_seed {C D : Mm} (h : Rel C D) (v : Int32) : Op (fX9_seed v C) (fX10_seed v D) := by
  obtain ⟨q1, q2, q3, q4, q5, q6⟩ := h.rs.1
  unfold fX9_seed fX10_seed
  simp only [lt_e, ix_lit7]
  exact ⟨_, _, _, rfl, by rw [q4], r_z h⟩
theorem op_told {C D : Mm} (h : Rel C D) (a : Int32) : Op (fX9_told a C) (fX10_told a D) := by
  unfold fX9_told fX10_told fX9_told_B25 fX10_told_B24
  simp only [lt_e, bd_s, gd_t, e_isWithin, e_in, e_hold, e_held, e_isPageC, e_isPage, eq_self, if_true, if_false, Bool.false_eq_true, bi_t, bi_f, ix_lit0, ix_lit1, ix_lit2, ix_lit3, ix_lit4, ix_lit5, ix_lit6, ix_lit7]
  by_cases hw : wi a 1 6 = true
  · obtain ⟨k, k1, k6, rfl⟩ := wiR (lo := 1) (hi := 6) (by omega) hw (by omega)
    simp only [hw, if_true, inb_nI (n := k) (N := 7) (by omega) (by omega), gd_t, ix_nI (n := k) (by omega)]
    exact ⟨_, _, _, rfl, by rw [h.2.2.2.1 k k1 k6], h⟩
  · rw [if_neg hw, if_neg hw, e_ref1, e_err1]
    exact op_err h (by decide) (by decide)
theorem op_have {C D : Mm} (h : Rel C D) (a v : Int32) : Op (fX9_have a v C) (fX10_have a v D) := by
  obtain ⟨q1, q2, q3, q4, q5, q6⟩ := h.rs.1
  have qk := h.rs.2.1
  have err : Op (fX9_have_B109 C) (fX10_have_B55 D) := by
    unfold fX9_have_B109 fX10_have_B55
    rw [e_ref1, e_err1]
    exact op_err h (by decide) (by decide)
  have n10 : ¬ (1 : Int32) = 0 := by decide
  by_cases h3 : wi a 0 3 = true
  · obtain ⟨p, hp, rfl⟩ := wi3 h3
    have h5 : wi (nI p) 0 5 = true := wi_nI (n := 5) (by omega) (by omega)
    have n4 : ¬ nI p = 4 := by rw [show (4 : Int32) = nI 4 from rfl, eq_nI (by omega) (by omega)]; omega
    have n5 : ¬ nI p = 5 := by rw [show (5 : Int32) = nI 5 from rfl, eq_nI (by omega) (by omega)]; omega
    unfold fX9_have fX10_have fX9_have_B42 fX9_have_B75 fX10_have_B27 fX10_have_B49
    simp only [lt_e, bd_s, gd_t, e_isWithin, e_in, e_hold, e_held, e_isPageC, e_isPage, eq_self, if_true, if_false, Bool.false_eq_true, bi_t, bi_f, ix_lit0, ix_lit1, ix_lit2, ix_lit3, ix_lit4, ix_lit5, ix_lit6, ix_lit7, h3, h5, n4, n5, n10]
    by_cases hv : wi v (-9) 20 = true
    · simp only [hv, if_true, inb_nI (n := p) (N := 4) (by omega) (by omega), gd_t, ix_nI (n := p) (by omega)]
      unfold fX10_have_B82
      rw [show (8 : Int32) + nI p = nI (8 + p) by rw [← nI_add]; rfl]
      simp only [inb_nI (n := 8 + p) (N := 626) (by omega) (by omega), gd_t, ix_nI (n := 8 + p) (by omega), lt_e]
      simp only [wi, Bool.and_eq_true, decide_eq_true_eq] at hv
      have := qk p hp
      rw [show (0 : Nat) + 1 = 1 from rfl] at this
      exact ⟨_, _, _, rfl, by rw [this], r_cold h hp hv.1 hv.2⟩
    · simp only [hv, if_false, Bool.false_eq_true]
      exact err
  · simp only [Bool.not_eq_true] at h3
    unfold fX9_have fX10_have fX9_have_B42 fX9_have_B75 fX10_have_B27 fX10_have_B49
    simp only [lt_e, bd_s, gd_t, e_isWithin, e_in, e_hold, e_held, e_isPageC, e_isPage, eq_self, if_true, if_false, Bool.false_eq_true, bi_t, bi_f, ix_lit0, ix_lit1, ix_lit2, ix_lit3, ix_lit4, ix_lit5, ix_lit6, ix_lit7, h3]
    by_cases h5 : wi a 0 5 = true
    · obtain ⟨p, hp, rfl⟩ := wi_in (n := 5) (by omega) h5
      simp only [h5, if_true]
      have hp4 : p = 4 ∨ p = 5 := by
        rcases (show p ≤ 3 ∨ p = 4 ∨ p = 5 by omega) with q | q
        · have := wi3_t (p := p) (by omega)
          rw [this] at h3; cases h3
        · exact q
      rcases hp4 with rfl | rfl
      · simp only [show (nI 4 = (4 : Int32)) = True from eq_true rfl, show (nI 4 = (5 : Int32)) = False from eq_false (by decide), if_true, if_false]
        by_cases hv : wi v 0 99999 = true
        · simp only [hv, if_true]
          unfold fX10_have_B82
          simp only [show inb (2 : Int32) 626 = true by decide, gd_t, ix_lit2, lt_e]
          simp only [wi, Bool.and_eq_true, decide_eq_true_eq] at hv
          exact ⟨_, _, _, rfl, by rw [q1], r_water h hv.1 hv.2⟩
        · simp only [hv, if_false, Bool.false_eq_true]
          exact err
      · simp only [show (nI 5 = (4 : Int32)) = False from eq_false (by decide), show (nI 5 = (5 : Int32)) = True from eq_true rfl, if_true, if_false]
        by_cases hv : wi v 0 9999 = true
        · simp only [hv, if_true]
          unfold fX10_have_B82
          simp only [show inb (3 : Int32) 626 = true by decide, gd_t, ix_lit3, lt_e]
          simp only [wi, Bool.and_eq_true, decide_eq_true_eq] at hv
          exact ⟨_, _, _, rfl, by rw [q2], r_salt h hv.1 hv.2⟩
        · simp only [hv, if_false, Bool.false_eq_true]
          exact err
    · have n4 : ¬ a = 4 := fun e => by subst e; exact h5 (by decide)
      have n5 : ¬ a = 5 := fun e => by subst e; exact h5 (by decide)
      simp only [Bool.not_eq_true] at h5
      simp only [h5, n4, n5, if_false, Bool.false_eq_true]
      exact err
/-- both ask for a letter: either both have it, or both refuse -/
theorem two_let {C D : Mm} (h : Rel C D) (a : Int32) : (∃ l, l < nL (D 1) ∧ l < 24 ∧ a = nI l ∧ wi a 0 (C 0 6 - 1) = true ∧ wi a 0 (D 1 0 - 1) = true) ∨ (wi a 0 (C 0 6 - 1) = false ∧ wi a 0 (D 1 0 - 1) = false) := by
  have q5 := h.rs.1.2.2.2.2.1
  have hL := h.si.l24
  have h0 := h.si.l0
  rw [q5, h0]
  by_cases he : ∃ j, j < nL (D 1) ∧ a = nI j
  · obtain ⟨j, hj, rfl⟩ := he
    have := (wiL (a := nI j) (n := nL (D 1)) (by omega)).mpr ⟨j, hj, rfl⟩
    exact Or.inl ⟨j, hj, by omega, rfl, this, this⟩
  · have := wiL_f (a := a) (n := nL (D 1)) (by omega) he
    exact Or.inr ⟨this, this⟩
theorem op_drink {C D : Mm} (h : Rel C D) (a : Int32) : Op (fX9_drink a C) (fX10_drink a D) := by
  unfold fX9_drink fX10_drink
  simp only [lt_e, bd_s, gd_t, e_isWithin, e_in, e_hold, e_held, e_isPageC, e_isPage, eq_self, if_true, if_false, Bool.false_eq_true, bi_t, bi_f, ix_lit0, ix_lit1, ix_lit2, ix_lit3, ix_lit4, ix_lit5, ix_lit6, ix_lit7, e_hasLetter, e_isLetter]
  rcases two_let h a with ⟨l, hl, hl24, rfl, w1, w2⟩ | ⟨w1, w2⟩
  · have hi := h.rs.let hl (f := 3) (by omega)
    have hix : ix (nI l) = l := ix_nI (by omega)
    simp only [w1, w2, if_true, inb_nI (n := l) (N := 24) hl24 (by omega), gd_t, hix, c_let l hl24, e_its3 hl24, e_lays3 hl24, bd_s]
    unfold fX3_takeIce
    simp only [c_let l hl24, gd_t, lt_e, bd_s, hi, Int32.sub_self]
    have hok := LOK_ice (h.si.2.2.1 l hl) (k := 0) (by omega)
    have h2 := r_mist (r_let h hl (f := 3) (by omega) hok) (v := (wr D 1 (12 + 7 * l + 3) 0) 1 4 + D 1 (12 + 7 * l + 3))
    refine ⟨_, _, _, rfl, rfl, ?_⟩
    have e : (wr C (4 + 1 * l) 3 0) 0 3 = (wr D 1 (12 + 7 * l + 3) 0) 1 4 := by
      rw [wr_at, if_neg (by omega), wr_at, if_neg (by omega)]
      exact h.rs.1.2.2.1
    rw [e]
    exact h2
  · simp only [w1, w2, if_false, Bool.false_eq_true, e_ref1, e_err1, bd_s]
    exact op_err h (by decide) (by decide)
theorem op_set {C D : Mm} (h : Rel C D) (a w v : Int32) : Op (fX9_set a w v C) (fX10_set a w v D) := by
  have err : Op (fX9_set_B23 C) (fX10_set_B82 D) := by
    unfold fX9_set_B23 fX10_set_B82
    rw [e_ref1, e_err1]
    exact op_err h (by decide) (by decide)
  have n10 : ¬ (1 : Int32) = 0 := by decide
  unfold fX9_set fX10_set fX10_set_B28 fX10_set_B32 fX10_set_B33 fX10_set_B65
  simp only [lt_e, bd_s, gd_t, e_isWithin, e_in, e_hold, e_held, e_isPageC, e_isPage, eq_self, if_true, if_false, Bool.false_eq_true, bi_t, bi_f, ix_lit0, ix_lit1, ix_lit2, ix_lit3, ix_lit4, ix_lit5, ix_lit6, ix_lit7, e_hasLetter, e_isLetter, n10, ite_self]
  rcases two_let h a with ⟨l, hl, hl24, rfl, w1, w2⟩ | ⟨w1, w2⟩
  · have hix : ix (nI l) = l := ix_nI (by omega)
    simp only [w1, w2, if_true, inb_nI (n := l) (N := 24) hl24 (by omega), gd_t, hix, c_let l hl24]
    unfold fX9_mostToSet fX3_change fX3_change_B85
    simp only [c_let l hl24, gd_t]
    have hlok := h.si.2.2.1 l hl
    by_cases e0 : w = 0
    · subst e0
      simp only [if_true, bd_s]
      by_cases hv : wi v 0 6 = true
      · obtain ⟨k, hk, rfl⟩ := wi_in (n := 6) (by omega) hv
        simp only [hv, if_true, e_its0 hl24, e_lays0 hl24, bd_s, lt_e]
        exact ⟨_, _, _, rfl, by rw [h.rs.let hl (f := 0) (by omega)]; rfl, r_let h hl (f := 0) (by omega) (LOK_kind hlok (by omega))⟩
      · simp only [hv, if_false, Bool.false_eq_true]
        exact err
    by_cases e1 : w = 1
    · subst e1
      simp only [n10, if_false, if_true, bd_s]
      by_cases hv : wi v 0 9 = true
      · obtain ⟨k, hk, rfl⟩ := wi_in (n := 9) (by omega) hv
        simp only [hv, if_true, e_its1 hl24, e_lays1 hl24, bd_s, lt_e]
        exact ⟨_, _, _, rfl, by rw [h.rs.let hl (f := 1) (by omega)], r_let h hl (f := 1) (by omega) (LOK_m hlok (by omega))⟩
      · simp only [hv, if_false, Bool.false_eq_true]
        exact err
    by_cases e4 : w = 4
    · subst e4
      simp only [show ((4 : Int32) = 0) = False from eq_false (by decide), show ((4 : Int32) = 1) = False from eq_false (by decide), show ((4 : Int32) = 2) = False from eq_false (by decide), show ((4 : Int32) = 3) = False from eq_false (by decide), if_false, if_true, bd_s]
      by_cases hv : wi v 0 3 = true
      · obtain ⟨k, hk, rfl⟩ := wi3 hv
        simp only [hv, if_true, e_its4 hl24, e_lays4 hl24, bd_s, lt_e]
        exact ⟨_, _, _, rfl, by rw [h.rs.let hl (f := 4) (by omega)], r_let h hl (f := 4) (by omega) (LOK_room hlok (by omega))⟩
      · simp only [hv, if_false, Bool.false_eq_true]
        exact err
    by_cases e6 : w = 6
    · subst e6
      simp only [show ((6 : Int32) = 0) = False from eq_false (by decide), show ((6 : Int32) = 1) = False from eq_false (by decide), show ((6 : Int32) = 2) = False from eq_false (by decide), show ((6 : Int32) = 3) = False from eq_false (by decide), show ((6 : Int32) = 4) = False from eq_false (by decide), show ((6 : Int32) = 5) = False from eq_false (by decide), if_false, if_true, bd_s]
      by_cases hv : wi v 0 99 = true
      · obtain ⟨k, hk, rfl⟩ := wi_in (n := 99) (by omega) hv
        simp only [hv, if_true, e_its6 hl24, e_lays6 hl24, bd_s, lt_e]
        exact ⟨_, _, _, rfl, by rw [h.rs.let hl (f := 6) (by omega)], r_let h hl (f := 6) (by omega) (LOK_age hlok (by omega))⟩
      · simp only [hv, if_false, Bool.false_eq_true]
        exact err
    have hm : wi v 0 (-1) = false := by
      cases hb : wi v 0 (-1) with
      | false => rfl
      | true =>
        have := (wiL (a := v) (n := 0) (by omega)).mp hb
        obtain ⟨j, hj, -⟩ := this
        omega
    simp only [e0, e1, e4, e6, if_false]
    by_cases e2 : w = 2
    · simp only [e2, if_true, bd_s, hm, if_false, Bool.false_eq_true]; exact err
    by_cases e3 : w = 3
    · simp only [e2, e3, if_true, bd_s, hm, if_false, Bool.false_eq_true, show ((3 : Int32) = 2) = False from eq_false (by decide)]; exact err
    by_cases e5 : w = 5
    · simp only [e2, e3, e5, if_true, bd_s, hm, if_false, Bool.false_eq_true, show ((5 : Int32) = 2) = False from eq_false (by decide), show ((5 : Int32) = 3) = False from eq_false (by decide)]; exact err
    simp only [e2, e3, e5, if_false, bd_s, hm, Bool.false_eq_true]; exact err
  · simp only [w1, w2, if_false, Bool.false_eq_true]
    exact err
theorem op_body {C D : Mm} (h : Rel C D) (a : Int32) : Op (fX9_body a C) (fX10_body a D) := by
  obtain ⟨⟨t, ht, e1⟩, e2, e3⟩ := h.2.2.2.2.1
  unfold fX9_body fX10_body fX9_body_B40 fX10_body_B28
  simp only [lt_e, bd_s, gd_t, e_isWithin, e_in, e_hold, e_held, e_isPageC, e_isPage, eq_self, if_true, if_false, Bool.false_eq_true, bi_t, bi_f, ix_lit0, ix_lit1, ix_lit2, ix_lit3, ix_lit4, ix_lit5, ix_lit6, ix_lit7, e2, e1]
  rw [e1, ix_nI (by omega)] at e3
  by_cases he : ∃ j, j < t ∧ a = nI j
  · obtain ⟨j, hj, rfl⟩ := he
    have hw := (wiL (a := nI j) (n := t) (by omega)).mpr ⟨j, hj, rfl⟩
    have hc : isC layC 157 5 = true := by decide
    have ha : aN layC (157 + 1) = 30 := by decide
    simp only [hw, if_true, inb_nI (n := j) (N := 30) (by omega) (by omega), gd_t, ix_nI (n := j) (by omega)]
    rw [e_at (n := t) hc (e2.trans e1) (by omega) (by omega), if_pos hj]
    exact ⟨_, _, _, rfl, by rw [e3 j hj], h⟩
  · have hw := wiL_f (a := a) (n := t) (by omega) he
    simp only [hw, if_false, Bool.false_eq_true, e_ref2, e_err2, bd_s]
    exact op_err h (by decide) (by decide)
theorem isOf_eq {k a : Nat} (hk : k < 7) (ha : a < 7) (M : Mm) : ∃ r, fX3_isOf_L7 (nI a) FU 0 (nI k) M = some (r, M) ∧ fX10_isUnder (nI k) (nI a) M = some (r, M) := by
  rcases (show k = 0 ∨ k = 1 ∨ k = 2 ∨ k = 3 ∨ k = 4 ∨ k = 5 ∨ k = 6 by omega) with rfl | rfl | rfl | rfl | rfl | rfl | rfl <;> rcases (show a = 0 ∨ a = 1 ∨ a = 2 ∨ a = 3 ∨ a = 4 ∨ a = 5 ∨ a = 6 by omega) with rfl | rfl | rfl | rfl | rfl | rfl | rfl <;> first | exact ⟨true, rfl, rfl⟩ | exact ⟨false, rfl, rfl⟩
