/-! PURE 13: how letters melt, read and are seen: one pure telling, both sides give it. -/
def nm0 (i c a m : Int32) : Nat → Int32 := fun ch => if ch = 105 then i else if ch = 99 then c else if ch = 97 then a else m
def nm1 (r sh gl : Int32) : Nat → Int32 := fun ch => if ch = 114 then r else if ch = 115 then sh else gl
def rdq (g : Nat → Int32) : Int32 := g 3 / (if g 0 = 4 then 10 else 10 + g 1)
def readL (g : Nat → Int32) : Int32 := hd (if g 0 = 2 ∨ g 0 = 4 then rdq g + (if rdq g ≤ 0 then 0 else 1) else if g 0 = 5 then rdq g - 1 else rdq g) 0 9
def coldL (s : Sx) (g : Nat → Int32) : Int32 := s (8 + ix (g 4))
def toldL (s : Sx) (g : Nat → Int32) : Int32 := if s 292 ≤ 0 then 3 - coldL s g else evS s 0 (nm0 (g 3) (coldL s g) (g 6) (g 1))
def rawL (s : Sx) (g : Nat → Int32) (pl : Int32) : Int32 := if g 0 = 1 then pl + g 3 / 10 else if g 0 = 2 then pl / 2 else if g 0 = 3 then pl + g 3 / 10 + g 1 else if g 0 = 4 then pl / 2 + (g 6 - g 6 / 2 * 2) else if g 0 = 5 then pl + g 6 / 4 else if g 0 = 6 then toldL s g else pl
def meltL (s : Sx) (g : Nat → Int32) : Int32 := hd (rawL s g (hd (5 - coldL s g) 0 99)) 0 (g 3)
def seesL (s : Sx) (g : Nat → Int32) (sh : Int32) : Int32 := if s 417 ≤ 0 then readL g else hd (evS s 1 (nm1 (readL g) sh (g 2))) 0 9
def gS (s : Sx) (l : Nat) : Nat → Int32 := fun f => s (12 + 7 * l + f)
def shS (s : Sx) (l : Nat) : Int32 := if s (12 + 7 * l + 5) = -1 then 0 else s (181 + 10 * ix (s (12 + 7 * l + 5)))
def TX (s : Sx) : Prop := SIf s ∧ ∀ r, r < 4 → -9 ≤ s (8 + r) ∧ s (8 + r) ≤ 20
def LG (g : Nat → Int32) : Prop := (∃ k, k < 7 ∧ g 0 = nI k) ∧ (∃ k, k < 10 ∧ g 1 = nI k) ∧ (∃ k, k ≤ 999 ∧ g 3 = nI k) ∧ (∃ k, k < 4 ∧ g 4 = nI k) ∧ (∃ k, k ≤ 99 ∧ g 6 = nI k)
def RX (C : Mm) (s : Sx) : Prop := RSk 0 C s ∧ RSt 0 C s
def ScC (C C' : Mm) : Prop := ∀ a, a ≠ 40 → a ≠ 41 → a ≠ 45 → a ≠ 46 → C' a = C a
def ScM (D D' : Mm) : Prop := ∀ a, a ≠ 6 → a ≠ 7 → D' a = D a
theorem ScC.rf (C : Mm) : ScC C C := fun _ _ _ _ _ => rfl
theorem ScC.tr {A B C : Mm} (h : ScC A B) (h2 : ScC B C) : ScC A C := fun a h1 h3 h4 h5 => (h2 a h1 h3 h4 h5).trans (h a h1 h3 h4 h5)
theorem ScM.rf (C : Mm) : ScM C C := fun _ _ _ => rfl
theorem ScM.tr {A B C : Mm} (h : ScM A B) (h2 : ScM B C) : ScM A C := fun a h1 h3 => (h2 a h1 h3).trans (h a h1 h3)
theorem SI.tx {s : Sx} (h : SI s) : TX s := ⟨h.2.2.2.2.2.1, h.2.1.2.2⟩
theorem LOK.lg {s : Sx} {l : Nat} (h : LOK s l) : LG (gS s l) := ⟨by unfold gS; rw [Nat.add_zero]; exact h.1, h.2.1, h.2.2.2.1, h.2.2.2.2.1, h.2.2.2.2.2.2⟩
theorem RS.rx {C : Mm} {s : Sx} (h : RS 0 C s) : RX C s := ⟨h.2.1, h.2.2.2.2.2.2.1⟩
theorem RX.sc {C C' : Mm} {s : Sx} (h : RX C s) (hc : ScC C C') : RX C' s := by
  refine ⟨fun j hj => by rw [hc _ (by omega) (by omega) (by omega) (by omega)]; exact h.1 j hj, fun u hu => ?_⟩
  rw [hc (0 + 38 + 5 * u) (by omega) (by omega) (by omega) (by omega), hc (0 + 39 + 5 * u) (by omega) (by omega) (by omega) (by omega)]
  exact h.2 u hu
theorem by_nz {g : Nat → Int32} (h : LG g) : ¬ (if g 0 = 4 then (10 : Int32) else 10 + g 1) = 0 := by
  obtain ⟨k, hk, e⟩ := h.2.1
  split
  · decide
  · rw [e, show (10 : Int32) + nI k = nI (10 + k) by rw [← nI_add]; rfl, show (0 : Int32) = nI 0 from rfl, eq_nI (by omega) (by omega)]; omega
theorem i32_pm1 (x : Int32) : x + (-1) = x - 1 := by rw [Int32.sub_eq_add_neg]
theorem e_readsC {k : Nat} {C : Mm} (hc : isC layC k 3 = true) (hg : LG (C k)) : fX3_reads k C = some (readL (C k), C) := by
  have hnz := by_nz hg
  have h24 : fX3_reads_B24 k (if C k 0 = 4 then (10 : Int32) else 10 + C k 1) (C k 3) C = some (readL (C k), C) := by
    unfold fX3_reads_B24
    rw [e_quotient, bd_s, if_neg hnz, hc, gd_t]
    unfold fX3_reads_B44 fX3_reads_B54 fX3_reads_B70 readL
    have eq : C k 3 / (if C k 0 = 4 then (10 : Int32) else 10 + C k 1) = rdq (C k) := rfl
    rw [eq]
    by_cases h2 : C k 0 = 2
    · rw [if_pos h2, if_pos (Or.inl h2)]
      by_cases h0 : rdq (C k) ≤ 0
      · rw [if_pos h0, if_pos h0, lt_e, e_hold]; rfl
      · rw [if_neg h0, if_neg h0, lt_e, e_hold]; rfl
    · rw [if_neg h2]
      by_cases h4 : C k 0 = 4
      · rw [if_pos h4, if_pos (Or.inr h4)]
        by_cases h0 : rdq (C k) ≤ 0
        · rw [if_pos h0, if_pos h0, lt_e, e_hold]; rfl
        · rw [if_neg h0, if_neg h0, lt_e, e_hold]; rfl
      · rw [if_neg h4, if_neg (show ¬ (C k 0 = 2 ∨ C k 0 = 4) from fun z => z.elim h2 h4)]
        by_cases h5 : C k 0 = 5
        · rw [if_pos h5, if_pos h5, e_hold, i32_pm1]; rfl
        · rw [if_neg h5, if_neg h5, e_hold]; rfl
  unfold fX3_reads
  rw [hc, gd_t]
  by_cases h4 : C k 0 = 4
  · rw [if_pos h4]; rw [if_pos h4] at h24; exact h24
  · rw [if_neg h4]; rw [if_neg h4] at h24; exact h24
theorem e_readsM {l : Nat} {D : Mm} (hl : l < 24) (hg : LG (gS (D 1) l)) : fX10_read (nI l) D = some (readL (gS (D 1) l), D) := by
  have hnz := by_nz hg
  have e0 : D 1 (12 + 7 * l) = gS (D 1) l 0 := rfl
  have e1 : D 1 (12 + 7 * l + 1) = gS (D 1) l 1 := rfl
  have e3 : D 1 (12 + 7 * l + 3) = gS (D 1) l 3 := rfl
  generalize hgg : gS (D 1) l = g at *
  have h26 : fX10_read_B26 (g 0) (nI l) (if g 0 = 4 then (10 : Int32) else 10 + g 1) D = some (readL g, D) := by
    unfold fX10_read_B26
    rw [e_its3 hl, bd_s, e3, show nz (if g 0 = 4 then (10 : Int32) else 10 + g 1) = true by simp [nz, hnz], gd_t, lt_e]
    unfold fX10_read_B47 fX10_read_B59 fX10_read_B62 fX10_read_B76 readL
    have eq : g 3 / (if g 0 = 4 then (10 : Int32) else 10 + g 1) = rdq g := rfl
    rw [eq]
    by_cases h2 : g 0 = 2
    · rw [if_pos h2, if_pos (Or.inl h2)]
      have n5 : ¬ g 0 = 5 := by rw [h2]; decide
      by_cases h0 : rdq g ≤ 0
      · rw [if_pos h0, if_pos h0, lt_e, if_neg n5, e_held]; rfl
      · rw [if_neg h0, if_neg h0, lt_e, if_neg n5, e_held]; rfl
    · rw [if_neg h2]
      by_cases h4 : g 0 = 4
      · rw [if_pos h4, if_pos (Or.inr h4)]
        have n5 : ¬ g 0 = 5 := by rw [h4]; decide
        by_cases h0 : rdq g ≤ 0
        · rw [if_pos h0, if_pos h0, lt_e, if_neg n5, e_held]; rfl
        · rw [if_neg h0, if_neg h0, lt_e, if_neg n5, e_held]; rfl
      · rw [if_neg h4, if_neg (show ¬ (g 0 = 2 ∨ g 0 = 4) from fun z => z.elim h2 h4)]
        by_cases h5 : g 0 = 5
        · rw [if_pos h5, if_pos h5, e_held]; rfl
        · rw [if_neg h5, if_neg h5, e_held]; rfl
  unfold fX10_read
  rw [e_its0 hl, bd_s, e0]
  by_cases h4 : g 0 = 4
  · rw [if_pos h4]; rw [if_pos h4] at h26; exact h26
  · rw [if_neg h4, e_its1 hl, bd_s, e1]; rw [if_neg h4] at h26; exact h26
theorem cold_ok {s : Sx} {g : Nat → Int32} (ht : TX s) (hg : LG g) : (if (0 : Int32) < 5 - coldL s g then 5 - coldL s g else 0) = hd (5 - coldL s g) 0 99 := by
  obtain ⟨k, hk, e⟩ := hg.2.2.2.1
  have hb := ht.2 k hk
  have ec : coldL s g = s (8 + k) := by unfold coldL; rw [e, ix_nI (by omega)]
  rw [ec]
  generalize s (8 + k) = c at *
  have h1 := hb.1
  have h2 := hb.2
  rw [Int32.le_iff_toInt_le] at h1 h2
  have a1 : (-9 : Int32).toInt = -9 := by decide
  have a2 : (20 : Int32).toInt = 20 := by decide
  have a3 : (5 : Int32).toInt = 5 := by decide
  have a4 : (0 : Int32).toInt = 0 := by decide
  have a5 : (99 : Int32).toInt = 99 := by decide
  have hs : ((5 : Int32) - c).toInt = 5 - c.toInt := by
    rw [Int32.toInt_sub, a3]
    rw [Int.bmod_eq_of_le] <;> omega
  unfold hd
  by_cases h0 : (0 : Int32) < 5 - c
  · rw [if_pos h0]
    rw [Int32.lt_iff_toInt_lt] at h0
    rw [if_pos (show (0 : Int32) ≤ 5 - c by rw [Int32.le_iff_toInt_le]; omega), if_pos (show 5 - c ≤ (99 : Int32) by rw [Int32.le_iff_toInt_le]; omega)]
  · rw [if_neg h0]
    rw [Int32.lt_iff_toInt_lt] at h0
    by_cases h9 : (0 : Int32) ≤ 5 - c
    · rw [if_pos h9]
      rw [Int32.le_iff_toInt_le] at h9
      rw [if_pos (show 5 - c ≤ (99 : Int32) by rw [Int32.le_iff_toInt_le]; omega)]
      apply Int32.toInt_inj.mp
      omega
    · rw [if_neg h9]
theorem nX_pos {s : Sx} {u : Nat} (ht : TOK s u) : (s (292 + 125 * u) ≤ 0) = (nX s u = 0) := by
  have h60 := ht.2.1
  rw [ht.1]
  apply propext
  constructor
  · intro h
    rcases Nat.eq_zero_or_pos (nX s u) with q | q
    · exact q
    · exact absurd h (nI_nle q (by omega))
  · intro h; rw [h]; decide
theorem o_toldM {l : Nat} {D : Mm} (hl : l < 24) (ht : TX (D 1)) (hg : LG (gS (D 1) l)) : Ok (fX10_dripsTold (nI l) D) (fun r D' => r = toldL (D 1) (gS (D 1) l) ∧ ScM D D') := by
  obtain ⟨rm, hrm, erm⟩ := hg.2.2.2.1
  have er : D 1 (12 + 7 * l + 4) = nI rm := erm
  have hcold : ∀ M : Mm, M 1 = D 1 → fX10_cold (nI l) M = some (coldL (D 1) (gS (D 1) l), M) := fun M hM => by
    unfold fX10_cold
    rw [e_its4 hl, bd_s, hM, er, show (8 : Int32) + nI rm = nI (8 + rm) by rw [← nI_add]; rfl, inb_nI (by omega) (by omega), gd_t, ix_nI (by omega)]
    unfold coldL
    rw [show gS (D 1) l 4 = nI rm from erm, ix_nI (by omega)]
  have htok := ht.1.1
  have e292 : D 1 (292 + 125 * 0) = D 1 292 := rfl
  have hx := nX_pos htok
  unfold fX10_dripsTold toldL
  refine ok_be (e_hasText (u := 0) (by omega) D) ?_
  by_cases h0 : D 1 292 ≤ 0
  · rw [if_pos h0]
    have : decide (¬ D 1 (292 + 125 * 0) ≤ 0) = false := by simp [h0]
    rw [this, if_neg (by decide)]
    refine ok_be (hcold D rfl) (ok_ret ⟨rfl, ScM.rf D⟩)
  · rw [if_neg h0]
    have : decide (¬ D 1 (292 + 125 * 0) ≤ 0) = true := by simp [h0]
    rw [this, if_pos rfl]
    have hpos : 0 < nX (D 1) 0 := by
      rcases Nat.eq_zero_or_pos (nX (D 1) 0) with q | q
      · rw [e292] at hx; rw [hx] at h0; exact absurd q h0
      · exact q
    refine ok_be (e_its3 hl D) (ok_lt ?_)
    rw [show ix (105 : Int32) = 105 by decide]
    refine ok_be (hcold _ (wr_c (by decide))) (ok_lt ?_)
    rw [show ix (99 : Int32) = 99 by decide]
    refine ok_be (e_its6 hl _) (ok_lt ?_)
    rw [show ix (97 : Int32) = 97 by decide]
    refine ok_be (e_its1 hl _) (ok_lt ?_)
    rw [show ix (109 : Int32) = 109 by decide]
    generalize hM : wr (wr (wr (wr D 6 105 _) 6 99 _) 6 97 _) 6 109 _ = M4
    have h1 : M4 1 = D 1 := by rw [← hM, wr_c (by decide), wr_c (by decide), wr_c (by decide), wr_c (by decide)]
    have hsc : ScM D M4 := fun a h6 h7 => by rw [← hM, wr_c h6, wr_c h6, wr_c h6, wr_c h6]
    have hn : ∀ v, isNm 0 v → M4 6 (ix v) = nm0 (gS (D 1) l 3) (coldL (D 1) (gS (D 1) l)) (gS (D 1) l 6) (gS (D 1) l 1) (ix v) := by
      intro v hv
      rcases hv with ⟨-, hv⟩ | ⟨z, -⟩
      · rcases hv with rfl | rfl | rfl | rfl
        · rw [show ix (105 : Int32) = 105 by decide, ← hM, wr_j (by decide), wr_j (by decide), wr_j (by decide), wr_s]; rfl
        · rw [show ix (99 : Int32) = 99 by decide, ← hM, wr_j (by decide), wr_j (by decide), wr_s]; rfl
        · rw [show ix (97 : Int32) = 97 by decide, ← hM, wr_j (by decide), wr_s, wr_c (show (1 : Nat) ≠ 6 by decide), wr_c (show (1 : Nat) ≠ 6 by decide)]; rfl
        · rw [show ix (109 : Int32) = 109 by decide, ← hM, wr_s, wr_c (show (1 : Nat) ≠ 6 by decide), wr_c (show (1 : Nat) ≠ 6 by decide), wr_c (show (1 : Nat) ≠ 6 by decide)]; rfl
      · omega
    refine ok_bd (o_worked (u := 0) (by omega) (by rw [h1]; exact htok) (by rw [h1]; exact hpos) hn) (fun r M5 q => ok_ret ⟨by rw [q.1, h1], hsc.tr (fun a h6 h7 => q.2 a h7)⟩)
theorem o_meltsM {l : Nat} {D : Mm} (hl : l < 24) (ht : TX (D 1)) (hg : LG (gS (D 1) l)) : Ok (fX10_melts (nI l) D) (fun r D' => r = meltL (D 1) (gS (D 1) l) ∧ ScM D D') := by
  obtain ⟨rm, hrm, erm⟩ := hg.2.2.2.1
  have er : D 1 (12 + 7 * l + 4) = nI rm := erm
  have hcold : fX10_cold (nI l) D = some (coldL (D 1) (gS (D 1) l), D) := by
    unfold fX10_cold
    rw [e_its4 hl, bd_s, er, show (8 : Int32) + nI rm = nI (8 + rm) by rw [← nI_add]; rfl, inb_nI (by omega) (by omega), gd_t, ix_nI (by omega)]
    unfold coldL
    rw [show gS (D 1) l 4 = nI rm from erm, ix_nI (by omega)]
  have fin : ∀ (v : Int32) (M : Mm), ScM D M → v = rawL (D 1) (gS (D 1) l) (hd (5 - coldL (D 1) (gS (D 1) l)) 0 99) → Ok (fX10_melts_B149 v (D 1 (12 + 7 * l + 3)) M) (fun r D' => r = meltL (D 1) (gS (D 1) l) ∧ ScM D D') := fun v M hM hv => by
    unfold fX10_melts_B149
    refine ok_be (e_held _ _ _ M) (ok_ret ⟨?_, hM⟩)
    rw [hv]; rfl
  unfold fX10_melts
  refine ok_be (e_its3 hl D) ?_
  refine ok_be hcold ?_
  refine ok_be (e_held _ _ _ D) ?_
  refine ok_be (e_its0 hl D) ?_
  have e0 : D 1 (12 + 7 * l) = gS (D 1) l 0 := rfl
  unfold rawL at fin
  rw [e0]
  by_cases k1 : gS (D 1) l 0 = 1
  · rw [if_pos k1]; exact ok_lt (fin _ D (ScM.rf D) (by rw [if_pos k1]; rfl))
  · rw [if_neg k1]; rw [if_neg k1] at fin
    by_cases k2 : gS (D 1) l 0 = 2
    · rw [if_pos k2]; exact ok_lt (fin _ D (ScM.rf D) (by rw [if_pos k2]))
    · rw [if_neg k2]; rw [if_neg k2] at fin
      by_cases k3 : gS (D 1) l 0 = 3
      · rw [if_pos k3]; exact ok_be (e_its1 hl D) (ok_lt (fin _ D (ScM.rf D) (by rw [if_pos k3]; rfl)))
      · rw [if_neg k3]; rw [if_neg k3] at fin
        by_cases k4 : gS (D 1) l 0 = 4
        · rw [if_pos k4]; exact ok_be (e_its6 hl D) (ok_lt (fin _ D (ScM.rf D) (by rw [if_pos k4]; rfl)))
        · rw [if_neg k4]; rw [if_neg k4] at fin
          by_cases k5 : gS (D 1) l 0 = 5
          · rw [if_pos k5]; exact ok_be (e_its6 hl D) (ok_lt (fin _ D (ScM.rf D) (by rw [if_pos k5]; rfl)))
          · rw [if_neg k5]; rw [if_neg k5] at fin
            by_cases k6 : gS (D 1) l 0 = 6
            · rw [if_pos k6]
              exact ok_bd (o_toldM hl ht hg) (fun r M q => fin r M q.2 (by rw [if_pos k6]; exact q.1))
            · rw [if_neg k6]
              exact fin _ D (ScM.rf D) (by rw [if_neg k6])
theorem o_meltsC {k : Nat} {C : Mm} {s : Sx} (hc : isC layC k 3 = true) (hx : RX C s) (ht : TX s) (hg : LG (C k)) : Ok (fX7_meltsOf k C) (fun r C' => r = meltL s (C k) ∧ ScC C C') := by
  obtain ⟨rm, hrm, erm⟩ := hg.2.2.2.1
  have ecold : C 1 rm = coldL s (C k) := by
    have := hx.1 rm hrm
    rw [show 0 + 1 = 1 from rfl] at this
    unfold coldL
    rw [this, erm, ix_nI (by omega)]
  have fin : ∀ (v : Int32) (M : Mm), ScC C M → M k = C k → v = rawL s (C k) (hd (5 - coldL s (C k)) 0 99) → Ok (fX7_meltsOf_B180 v k M) (fun r C' => r = meltL s (C k) ∧ ScC C C') := fun v M hM hk hv => by
    unfold fX7_meltsOf_B180
    rw [hc, gd_t]
    refine ok_be (e_hold _ _ _ M) (ok_ret ⟨?_, hM⟩)
    rw [hv, hk]; rfl
  unfold fX7_meltsOf
  rw [hc, gd_t]
  refine ok_be (e_isWithin _ _ _ C) ?_
  rw [erm, show wi (nI rm) 0 3 = true from wi3_t hrm, if_pos rfl, inb_nI hrm (by omega), gd_t, ix_nI (by omega), ecold]
  unfold fX7_meltsOf_B25
  rw [cold_ok ht hg]
  refine ok_lt ?_
  rw [hc, gd_t]
  refine ok_lt ?_
  unfold rawL at fin
  by_cases k1 : C k 0 = 1
  · rw [if_pos k1]; exact ok_lt (fin _ C (ScC.rf C) rfl (by rw [if_pos k1]))
  · rw [if_neg k1]; rw [if_neg k1] at fin
    by_cases k2 : C k 0 = 2
    · rw [if_pos k2]; exact ok_lt (fin _ C (ScC.rf C) rfl (by rw [if_pos k2]))
    · rw [if_neg k2]; rw [if_neg k2] at fin
      by_cases k3 : C k 0 = 3
      · rw [if_pos k3]; exact ok_lt (fin _ C (ScC.rf C) rfl (by rw [if_pos k3, Int32.add_assoc]))
      · rw [if_neg k3]; rw [if_neg k3] at fin
        by_cases k4 : C k 0 = 4
        · rw [if_pos k4]; exact ok_lt (fin _ C (ScC.rf C) rfl (by rw [if_pos k4]))
        · rw [if_neg k4]; rw [if_neg k4] at fin
          by_cases k5 : C k 0 = 5
          · rw [if_pos k5]; exact ok_lt (fin _ C (ScC.rf C) rfl (by rw [if_pos k5]))
          · rw [if_neg k5]; rw [if_neg k5] at fin
            by_cases k6 : C k 0 = 6
            · rw [if_pos k6]
              rw [if_pos k6] at fin
              have htok := ht.1.1
              have hx0 := hx.2 0 (by omega)
              rw [show 0 + 38 + 5 * 0 = 38 from rfl, show 0 + 39 + 5 * 0 = 39 from rfl, show 292 + 125 * 0 = 292 from rfl] at hx0
              have hxp := nX_pos htok
              rw [show 292 + 125 * 0 = 292 from rfl] at hxp
              refine ok_be (e_isTold (k := 37) (by decide) (by decide) (by decide) C) ?_
              rw [show 37 + 1 = 38 from rfl, hx0.1]
              unfold fX7_meltsOf_B176
              unfold toldL at fin
              by_cases h0 : s 292 ≤ 0
              · rw [show decide (¬ s 292 ≤ 0) = false by simp [h0], if_neg (by decide)]
                exact fin _ C (ScC.rf C) rfl (by rw [if_pos h0])
              · rw [show decide (¬ s 292 ≤ 0) = true by simp [h0], if_pos rfl]
                have hpos : 0 < nX s 0 := by
                  rcases Nat.eq_zero_or_pos (nX s 0) with q | q
                  · rw [hxp] at h0; exact absurd q h0
                  · exact q
                refine ok_bd (o_workOut (u := 0) (s := s) (nm := nm0 (C k 3) (coldL s (C k)) (C k 6) (C k 1)) (by omega) htok hpos hx0.1 hx0.2 ?_) (fun r M q => ?_)
                · intro i hi
                  have : i < 4 := hi
                  rcases (show i = 0 ∨ i = 1 ∨ i = 2 ∨ i = 3 by omega) with rfl | rfl | rfl | rfl <;> rfl
                · have hsc : ScC C M := fun a h1 h2 h3 h4 => q.2 a h1 h2
                  have hk40 : M k = C k := by
                    refine q.2 k ?_ ?_
                    · intro e; subst e; exact absurd hc (by decide)
                    · intro e; subst e; exact absurd hc (by decide)
                  exact fin r M hsc hk40 (by rw [if_neg h0]; exact q.1)
            · rw [if_neg k6]
              exact fin _ C (ScC.rf C) rfl (by rw [if_neg k6])
theorem o_seesC {k : Nat} {C : Mm} {s : Sx} (sh : Int32) (hc : isC layC k 3 = true) (hx : RX C s) (ht : TX s) (hg : LG (C k)) : Ok (fX7_seesOf k sh C) (fun r C' => r = seesL s (C k) sh ∧ ScC C C') := by
  have htok := ht.1.2
  have hx0 := hx.2 1 (by omega)
  rw [show 0 + 38 + 5 * 1 = 43 from rfl, show 0 + 39 + 5 * 1 = 44 from rfl, show 292 + 125 * 1 = 417 from rfl] at hx0
  have hxp := nX_pos htok
  rw [show 292 + 125 * 1 = 417 from rfl] at hxp
  unfold fX7_seesOf
  rw [hc, gd_t]
  refine ok_be (e_readsC hc hg) ?_
  refine ok_be (e_isTold (k := 42) (by decide) (by decide) (by decide) C) ?_
  rw [show 42 + 1 = 43 from rfl, hx0.1]
  unfold fX7_seesOf_B39 seesL
  by_cases h0 : s 417 ≤ 0
  · rw [show decide (¬ s 417 ≤ 0) = false by simp [h0], if_neg (by decide), if_pos h0]
    exact ok_ret ⟨rfl, ScC.rf C⟩
  · rw [show decide (¬ s 417 ≤ 0) = true by simp [h0], if_pos rfl, if_neg h0]
    have hpos : 0 < nX s 1 := by
      rcases Nat.eq_zero_or_pos (nX s 1) with q | q
      · rw [hxp] at h0; exact absurd q h0
      · exact q
    refine ok_bd (o_workOut (u := 1) (s := s) (nm := nm1 (readL (C k)) sh (C k 2)) (by omega) htok hpos hx0.1 hx0.2 ?_) (fun r M q => ?_)
    · intro i hi
      have : i < 3 := hi
      rcases (show i = 0 ∨ i = 1 ∨ i = 2 by omega) with rfl | rfl | rfl <;> rfl
    · refine ok_be (e_hold _ _ _ M) (ok_ret ⟨by rw [q.1], fun a h1 h2 h3 h4 => q.2 a h3 h4⟩)
theorem o_seesM {l : Nat} {D : Mm} (hl : l < 24) (ht : TX (D 1)) (hg : LG (gS (D 1) l)) (hp : D 1 (12 + 7 * l + 5) = -1 ∨ ∃ p, p < 4 ∧ D 1 (12 + 7 * l + 5) = nI p) : Ok (fX10_sees (nI l) D) (fun r D' => r = seesL (D 1) (gS (D 1) l) (shS (D 1) l) ∧ ScM D D') := by
  have htok := ht.1.2
  have hx := nX_pos htok
  rw [show 292 + 125 * 1 = 417 from rfl] at hx
  unfold fX10_sees seesL
  refine ok_be (e_readsM hl hg) ?_
  refine ok_be (e_hasText (u := 1) (by omega) D) ?_
  rw [show 292 + 125 * 1 = 417 from rfl]
  by_cases h0 : D 1 417 ≤ 0
  · rw [show decide (¬ D 1 417 ≤ 0) = false by simp [h0], if_neg (by decide), if_pos h0]
    exact ok_ret ⟨rfl, ScM.rf D⟩
  · rw [show decide (¬ D 1 417 ≤ 0) = true by simp [h0], if_pos rfl, if_neg h0]
    have hpos : 0 < nX (D 1) 1 := by
      rcases Nat.eq_zero_or_pos (nX (D 1) 1) with q | q
      · rw [hx] at h0; exact absurd q h0
      · exact q
    refine ok_lt ?_
    rw [show ix (114 : Int32) = 114 by decide]
    refine ok_be (e_its5 hl _) ?_
    have fin : ∀ sh : Int32, sh = shS (D 1) l → Ok (fX10_sees_B55 (nI l) sh 115 (wr D 6 114 (readL (gS (D 1) l)))) (fun r D' => r = hd (evS (D 1) 1 (nm1 (readL (gS (D 1) l)) (shS (D 1) l) (gS (D 1) l 2))) 0 9 ∧ ScM D D') := by
      intro sh hsh
      unfold fX10_sees_B55
      rw [show inb (115 : Int32) 128 = true by decide, gd_t, show ix (115 : Int32) = 115 by decide]
      refine ok_lt ?_
      refine ok_be (e_its2 hl _) (ok_lt ?_)
      rw [show ix (103 : Int32) = 103 by decide]
      generalize hM : wr (wr (wr D 6 114 _) 6 115 _) 6 103 _ = M4
      have h1 : M4 1 = D 1 := by rw [← hM, wr_c (by decide), wr_c (by decide), wr_c (by decide)]
      have hsc : ScM D M4 := fun a h6 h7 => by rw [← hM, wr_c h6, wr_c h6, wr_c h6]
      have hn : ∀ v, isNm 1 v → M4 6 (ix v) = nm1 (readL (gS (D 1) l)) (shS (D 1) l) (gS (D 1) l 2) (ix v) := by
        intro v hv
        rcases hv with ⟨z, -⟩ | ⟨-, hv⟩
        · omega
        · rcases hv with rfl | rfl | rfl
          · rw [show ix (114 : Int32) = 114 by decide, ← hM, wr_j (by decide), wr_j (by decide), wr_s]; rfl
          · rw [show ix (115 : Int32) = 115 by decide, ← hM, wr_j (by decide), wr_s, hsh]; rfl
          · rw [show ix (103 : Int32) = 103 by decide, ← hM, wr_s, wr_c (show (1 : Nat) ≠ 6 by decide), wr_c (show (1 : Nat) ≠ 6 by decide)]; rfl
      refine ok_bd (o_worked (u := 1) (by omega) (by rw [h1]; exact htok) (by rw [h1]; exact hpos) hn) (fun r M5 q => ?_)
      refine ok_be (e_held _ _ _ M5) (ok_ret ⟨by rw [q.1, h1], hsc.tr (fun a h6 h7 => q.2 a h7)⟩)
    rw [wr_c (show (1 : Nat) ≠ 6 by decide)]
    rcases hp with hp | ⟨p, hp4, hp⟩
    · rw [hp, if_pos rfl]
      exact fin 0 (by unfold shS; rw [if_pos hp])
    · rw [hp, if_neg (fun e => neg1_ne hp4 e.symm)]
      refine ok_be (e_its5 hl _) ?_
      rw [wr_c (show (1 : Nat) ≠ 6 by decide), hp]
      refine ok_be (e_of1 hp4 _) ?_
      rw [wr_c (show (1 : Nat) ≠ 6 by decide)]
      exact fin _ (by unfold shS; rw [hp, if_neg (fun e => neg1_ne hp4 e.symm), ix_nI (by omega)])
