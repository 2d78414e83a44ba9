/-! PURE 3: equations of small methods. -/
theorem nI_m1 {n : Nat} : nI (n + 1) - 1 = nI n := nI_pred n
theorem wiL {a : Int32} {n : Nat} (hn : n < 2 ^ 31) : wi a 0 (nI n - 1) = true ↔ ∃ j, j < n ∧ a = nI j := by
  cases n with
  | zero =>
    constructor
    · intro h
      simp only [wi, Bool.and_eq_true, decide_eq_true_eq] at h
      have h2 : a ≤ -1 := h.2
      rw [Int32.le_iff_toInt_le] at h2
      have h1 := h.1
      rw [Int32.le_iff_toInt_le] at h1
      have e1 : (0 : Int32).toInt = 0 := by decide
      have e2 : (-1 : Int32).toInt = -1 := by decide
      omega
    · rintro ⟨j, hj, -⟩; omega
  | succ n =>
    rw [nI_pred]
    constructor
    · intro h
      obtain ⟨j, h1, h2⟩ := wi_in (by omega) h
      exact ⟨j, by omega, h2⟩
    · rintro ⟨j, hj, rfl⟩
      exact wi_nI (by omega) (by omega)
theorem wiL_f {a : Int32} {n : Nat} (hn : n < 2 ^ 31) (h : ¬ ∃ j, j < n ∧ a = nI j) : wi a 0 (nI n - 1) = false := by
  cases hb : wi a 0 (nI n - 1) with
  | false => rfl
  | true => exact absurd ((wiL hn).mp hb) h
theorem wi3 {a : Int32} (h : wi a 0 3 = true) : ∃ p, p < 4 ∧ a = nI p := by
  obtain ⟨j, h1, h2⟩ := wi_in (n := 3) (by omega) h
  exact ⟨j, by omega, h2⟩
theorem wi3_t {p : Nat} (h : p < 4) : wi (nI p) 0 3 = true := wi_nI (n := 3) (by omega) (by omega)
-- errors
theorem e_refuse {k : Nat} (a : Int32) (h1 : 1 ≤ k) (h6 : k ≤ 6) (ha : (-1000000000 : Int32) - a = nI k) (M : Mm) : fX9_refuse a M = some (a, wr M 172 k (M 172 k + 1)) := by
  unfold fX9_refuse fX9_refuse_B26
  have hw : wi (nI k) 1 6 = true := by
    have a1 : (1 : Int32) ≤ nI k := nI_le (a := 1) h1 (by omega)
    have a2 : nI k ≤ (6 : Int32) := nI_le (b := 6) h6 (by omega)
    simp [wi, a1, a2]
  simp only [lt_e, ha, e_isWithin, bd_s, hw, if_true, inb_nI (n := k) (N := 7) (by omega) (by omega), gd_t, ix_nI (n := k) (by omega)]
theorem e_ref1 (M : Mm) : fX9_refuse (-1000000001) M = some (-1000000001, wr M 172 1 (M 172 1 + 1)) := e_refuse _ (by decide) (by decide) (by decide) M
theorem e_ref2 (M : Mm) : fX9_refuse (-1000000002) M = some (-1000000002, wr M 172 2 (M 172 2 + 1)) := e_refuse _ (by decide) (by decide) (by decide) M
theorem e_ref3 (M : Mm) : fX9_refuse (-1000000003) M = some (-1000000003, wr M 172 3 (M 172 3 + 1)) := e_refuse _ (by decide) (by decide) (by decide) M
theorem e_ref4 (M : Mm) : fX9_refuse (-1000000004) M = some (-1000000004, wr M 172 4 (M 172 4 + 1)) := e_refuse _ (by decide) (by decide) (by decide) M
theorem e_ref5 (M : Mm) : fX9_refuse (-1000000005) M = some (-1000000005, wr M 172 5 (M 172 5 + 1)) := e_refuse _ (by decide) (by decide) (by decide) M
theorem e_ref6 (M : Mm) : fX9_refuse (-1000000006) M = some (-1000000006, wr M 172 6 (M 172 6 + 1)) := e_refuse _ (by decide) (by decide) (by decide) M
theorem e_err1 (M : Mm) : fX10_error 1 M = some (-1000000001, wr M 4 1 (M 4 1 + 1)) := by
  unfold fX10_error
  rw [show inb (1 : Int32) 7 = true by decide, show ix (1 : Int32) = 1 by decide]
  rfl
theorem e_err2 (M : Mm) : fX10_error 2 M = some (-1000000002, wr M 4 2 (M 4 2 + 1)) := by
  unfold fX10_error
  rw [show inb (2 : Int32) 7 = true by decide, show ix (2 : Int32) = 2 by decide]
  rfl
theorem e_err3 (M : Mm) : fX10_error 3 M = some (-1000000003, wr M 4 3 (M 4 3 + 1)) := by
  unfold fX10_error
  rw [show inb (3 : Int32) 7 = true by decide, show ix (3 : Int32) = 3 by decide]
  rfl
theorem e_err4 (M : Mm) : fX10_error 4 M = some (-1000000004, wr M 4 4 (M 4 4 + 1)) := by
  unfold fX10_error
  rw [show inb (4 : Int32) 7 = true by decide, show ix (4 : Int32) = 4 by decide]
  rfl
theorem e_err5 (M : Mm) : fX10_error 5 M = some (-1000000005, wr M 4 5 (M 4 5 + 1)) := by
  unfold fX10_error
  rw [show inb (5 : Int32) 7 = true by decide, show ix (5 : Int32) = 5 by decide]
  rfl
theorem e_err6 (M : Mm) : fX10_error 6 M = some (-1000000006, wr M 4 6 (M 4 6 + 1)) := by
  unfold fX10_error
  rw [show inb (6 : Int32) 7 = true by decide, show ix (6 : Int32) = 6 by decide]
  rfl
theorem ix_lit0 : ix (0 : Int32) = 0 := by decide
theorem ix_lit1 : ix (1 : Int32) = 1 := by decide
theorem ix_lit2 : ix (2 : Int32) = 2 := by decide
theorem ix_lit3 : ix (3 : Int32) = 3 := by decide
theorem ix_lit4 : ix (4 : Int32) = 4 := by decide
theorem ix_lit5 : ix (5 : Int32) = 5 := by decide
theorem ix_lit6 : ix (6 : Int32) = 6 := by decide
theorem ix_lit7 : ix (7 : Int32) = 7 := by decide
-- letters, pages of the reference
theorem x_let (l w : Nat) : ((12 : Int32) + ((7 : Int32) * nI l)) + nI w = nI (12 + 7 * l + w) := by
  rw [← nI_add, ← nI_add, ← pk_mul]; rfl
theorem x_pag (p w : Nat) : ((180 : Int32) + ((10 : Int32) * nI p)) + nI w = nI (180 + 10 * p + w) := by
  rw [← nI_add, ← nI_add, ← pk_mul]; rfl
theorem e_itsN {l w : Nat} (hl : l < 24) (hw : w < 7) (M : Mm) : fX10_its (nI l) (nI w) M = some (M 1 (12 + 7 * l + w), M) := by
  unfold fX10_its
  rw [x_let, inb_nI (by omega) (by omega), ix_nI (by omega)]; rfl
theorem e_laysN {l w : Nat} (hl : l < 24) (hw : w < 7) (v : Int32) (M : Mm) : fX10_lays1 (nI l) (nI w) v M = some ((), wr M 1 (12 + 7 * l + w) v) := by
  unfold fX10_lays1
  rw [x_let, inb_nI (by omega) (by omega), ix_nI (by omega)]; rfl
theorem e_ofN {p w : Nat} (hp : p < 4) (hw : w < 10) (M : Mm) : fX10_of (nI p) (nI w) M = some (M 1 (180 + 10 * p + w), M) := by
  unfold fX10_of
  rw [x_pag, inb_nI (by omega) (by omega), ix_nI (by omega)]; rfl
theorem e_its0 {l : Nat} (hl : l < 24) (M : Mm) : fX10_its (nI l) 0 M = some (M 1 (12 + 7 * l), M) := e_itsN (w := 0) hl (by omega) M
theorem e_lays0 {l : Nat} (hl : l < 24) (v : Int32) (M : Mm) : fX10_lays1 (nI l) 0 v M = some ((), wr M 1 (12 + 7 * l) v) := e_laysN (w := 0) hl (by omega) v M
theorem e_its1 {l : Nat} (hl : l < 24) (M : Mm) : fX10_its (nI l) 1 M = some (M 1 (12 + 7 * l + 1), M) := e_itsN (w := 1) hl (by omega) M
theorem e_lays1 {l : Nat} (hl : l < 24) (v : Int32) (M : Mm) : fX10_lays1 (nI l) 1 v M = some ((), wr M 1 (12 + 7 * l + 1) v) := e_laysN (w := 1) hl (by omega) v M
theorem e_its2 {l : Nat} (hl : l < 24) (M : Mm) : fX10_its (nI l) 2 M = some (M 1 (12 + 7 * l + 2), M) := e_itsN (w := 2) hl (by omega) M
theorem e_lays2 {l : Nat} (hl : l < 24) (v : Int32) (M : Mm) : fX10_lays1 (nI l) 2 v M = some ((), wr M 1 (12 + 7 * l + 2) v) := e_laysN (w := 2) hl (by omega) v M
theorem e_its3 {l : Nat} (hl : l < 24) (M : Mm) : fX10_its (nI l) 3 M = some (M 1 (12 + 7 * l + 3), M) := e_itsN (w := 3) hl (by omega) M
theorem e_lays3 {l : Nat} (hl : l < 24) (v : Int32) (M : Mm) : fX10_lays1 (nI l) 3 v M = some ((), wr M 1 (12 + 7 * l + 3) v) := e_laysN (w := 3) hl (by omega) v M
theorem e_its4 {l : Nat} (hl : l < 24) (M : Mm) : fX10_its (nI l) 4 M = some (M 1 (12 + 7 * l + 4), M) := e_itsN (w := 4) hl (by omega) M
theorem e_lays4 {l : Nat} (hl : l < 24) (v : Int32) (M : Mm) : fX10_lays1 (nI l) 4 v M = some ((), wr M 1 (12 + 7 * l + 4) v) := e_laysN (w := 4) hl (by omega) v M
theorem e_its5 {l : Nat} (hl : l < 24) (M : Mm) : fX10_its (nI l) 5 M = some (M 1 (12 + 7 * l + 5), M) := e_itsN (w := 5) hl (by omega) M
theorem e_lays5 {l : Nat} (hl : l < 24) (v : Int32) (M : Mm) : fX10_lays1 (nI l) 5 v M = some ((), wr M 1 (12 + 7 * l + 5) v) := e_laysN (w := 5) hl (by omega) v M
theorem e_its6 {l : Nat} (hl : l < 24) (M : Mm) : fX10_its (nI l) 6 M = some (M 1 (12 + 7 * l + 6), M) := e_itsN (w := 6) hl (by omega) M
theorem e_lays6 {l : Nat} (hl : l < 24) (v : Int32) (M : Mm) : fX10_lays1 (nI l) 6 v M = some ((), wr M 1 (12 + 7 * l + 6) v) := e_laysN (w := 6) hl (by omega) v M
theorem e_of0 {p : Nat} (hp : p < 4) (M : Mm) : fX10_of (nI p) 0 M = some (M 1 (180 + 10 * p), M) := e_ofN (w := 0) hp (by omega) M
theorem e_of1 {p : Nat} (hp : p < 4) (M : Mm) : fX10_of (nI p) 1 M = some (M 1 (181 + 10 * p), M) := by
  have h := e_ofN (w := 1) hp (by omega) M
  rw [show 180 + 10 * p + 1 = 181 + 10 * p by omega] at h
  exact h
theorem e_ofR {p j : Nat} (hp : p < 4) (hj : j < 8) (M : Mm) : fX10_of (nI p) (2 + nI j) M = some (M 1 (182 + 10 * p + j), M) := by
  have h := e_ofN (w := 2 + j) hp (by omega) M
  rw [show 180 + 10 * p + (2 + j) = 182 + 10 * p + j by omega, ← nI_add] at h
  exact h
theorem e_isLetter (a : Int32) (M : Mm) : fX10_isLetter a M = some (wi a 0 (M 1 0 - 1), M) := by
  unfold fX10_isLetter; rw [ix_lit0, e_in]; rfl
theorem e_hasLetter (a : Int32) (M : Mm) : fX7_hasLetter a M = some (wi a 0 (M 0 6 - 1), M) := by
  unfold fX7_hasLetter; rw [e_isWithin]; rfl
theorem e_quotient (a b : Int32) (M : Mm) : fX9_quotient a b M = some (if b = 0 then 0 else a / b, M) := by
  unfold fX9_quotient fX9_quotient_B11
  by_cases h : b = 0
  · rw [if_pos h, if_pos h]
  · rw [if_neg h, if_neg h, show nz b = true by simp [nz, h]]; rfl
-- cells of the class
theorem c_let : ∀ i, i < 24 → isC layC (4 + 1 * i) 3 = true := by decide +kernel
theorem c_ahl : ∀ i, i < 8 → isC layC (138 + 1 * i) 3 = true := by decide +kernel
theorem c_pag : ∀ i, i < 4 → isC layC (29 + 2 * i) 5 = true := by decide +kernel
theorem c_wrd : ∀ i, i < 8 → isC layC (48 + 2 * i) 5 = true := by decide +kernel
theorem c_plt : ∀ i, i < 4 → isC layC (160 + 3 * i) 4 = true := by decide +kernel
theorem c_plr : ∀ i, i < 4 → isC layC (161 + 3 * i) 5 = true := by decide +kernel
theorem c_rowk : ∀ k, k < 174 → isC layC k 5 = true → fR layC k 0 = k + 1 ∧ isN layC (k + 1) (aN layC (k + 1)) = true ∧ aN layC (k + 1) ≤ 60 := by decide +kernel
theorem c_len : layC.length = 174 := by decide +kernel
theorem isC_lt {k ci : Nat} (h : isC layC k ci = true) : k < 174 := by
  obtain ⟨fs, h1, -⟩ := isC_spec h
  have := (List.getElem?_eq_some_iff.mp h1).1
  rw [c_len] at this; exact this
theorem c_row {k : Nat} (h : isC layC k 5 = true) : fR layC k 0 = k + 1 ∧ isN layC (k + 1) (aN layC (k + 1)) = true ∧ aN layC (k + 1) ≤ 60 := c_rowk k (isC_lt h) h
theorem a_pag : ∀ i, i < 4 → aN layC (30 + 2 * i) = 8 := by decide +kernel
theorem a_wrd : ∀ i, i < 8 → aN layC (49 + 2 * i) = 8 := by decide +kernel
theorem a_plr : ∀ i, i < 4 → aN layC (162 + 3 * i) = 24 := by decide +kernel
-- rows of the class
theorem e_at {k n i : Nat} {M : Mm} (hc : isC layC k 5 = true) (hn : M k 1 = nI n) (hcap : n ≤ aN layC (k + 1)) (hi : i < 2 ^ 31) : fX5_at k (nI i) M = some (if i < n then M (k + 1) i else 0, M) := by
  obtain ⟨h1, h2, h3⟩ := c_row hc
  unfold fX5_at fX5_at_B24
  simp only [hc, gd_t, e_isWithin, bd_s, h1, h2, hn]
  by_cases h : i < n
  · rw [(wiL (a := nI i) (by omega)).mpr ⟨i, h, rfl⟩, if_pos rfl, inb_nI (by omega) (by omega), ix_nI hi, if_pos h]; rfl
  · rw [wiL_f (by omega) (by
      rintro ⟨j, hj, e⟩
      rw [eq_nI hi (by omega)] at e
      omega), if_neg h]
    rfl
theorem e_add {k n : Nat} {M : Mm} (hc : isC layC k 5 = true) (hn : M k 1 = nI n) (hcap : n < aN layC (k + 1)) (v : Int32) : fX5_add k v M = some (true, wr (wr M (k + 1) n v) k 1 (nI (n + 1))) := by
  obtain ⟨h1, h2, h3⟩ := c_row hc
  unfold fX5_add
  have hlt : nI n < Int32.ofNat (aN layC (k + 1)) := nI_lt hcap (by omega)
  simp only [hc, gd_t, h1, h2, hn, if_pos hlt, inb_nI hcap (by omega), lt_e, ix_nI (n := n) (by omega)]
  rw [wr_c (show k ≠ k + 1 by omega), hn, nI_1]
theorem e_addF {k n : Nat} {M : Mm} (hc : isC layC k 5 = true) (hn : M k 1 = nI n) (hcap : n = aN layC (k + 1)) (v : Int32) : fX5_add k v M = some (false, M) := by
  obtain ⟨h1, h2, h3⟩ := c_row hc
  unfold fX5_add
  have hlt : ¬ nI n < Int32.ofNat (aN layC (k + 1)) := nI_nlt (by omega) (by omega)
  simp only [hc, gd_t, h1, h2, hn, if_neg hlt]
theorem e_clear {k : Nat} {M : Mm} (hc : isC layC k 5 = true) : fX5_clear k M = some ((), wr M k 1 0) := by
  unfold fX5_clear; rw [hc]; rfl
theorem e_takeFrom {k k2 n : Nat} {M : Mm} (hc : isC layC k 5 = true) (hc2 : isC layC k2 5 = true) (hn : M k2 1 = nI n) (h1 : n ≤ aN layC (k + 1)) (h2 : n ≤ aN layC (k2 + 1)) : fX5_takeFrom k k2 M = some ((), cpm (wr M k 1 (nI n)) (k2 + 1) 0 (k + 1) 0 n) := by
  obtain ⟨a1, a2, a3⟩ := c_row hc
  obtain ⟨b1, b2, b3⟩ := c_row hc2
  unfold fX5_takeFrom
  have hlt : ¬ Int32.ofNat (aN layC (k + 1)) < nI n := nI_nlt h1 (by omega)
  have hz : ¬ nI n < 0 := nI_pos (by omega)
  simp only [hc, hc2, gd_t, a1, a2, b1, b2, hn, if_neg hlt, lt_e, wr_s, ix_lit0, ix_nI (n := n) (by omega)]
  rw [show (!(decide ((0 : Int32) < 0)) && !(decide ((0 : Int32) < 0)) && !(decide (nI n < 0)) && decide (0 + n ≤ aN layC (k2 + 1)) && decide (0 + n ≤ aN layC (k + 1))) = true by
    simp [hz, h1, h2]]
  rfl
-- both rows beside each other
theorem MF_1 {D : Mm} {j : Nat} {v : Int32} : MF D (wr D 1 j v) := ⟨wr_c (by decide), wr_c (by decide), wr_c (by decide), wr_c (by decide), wr_c (by decide), wr_c (by decide), by rw [wr_c (by decide)], by rw [wr_c (by decide)]⟩
theorem MF_67 {D D' : Mm} (h : ∀ a, a ≠ 6 → a ≠ 7 → D' a = D a) : MF D D' := ⟨h 2 (by decide) (by decide), h 4 (by decide) (by decide), h 12 (by decide) (by decide), h 13 (by decide) (by decide), h 14 (by decide) (by decide), h 15 (by decide) (by decide), by rw [h 0 (by decide) (by decide)], by rw [h 0 (by decide) (by decide)]⟩
def Op (x y : Option (Int32 × Mm)) : Prop := ∃ r C D, x = some (r, C) ∧ y = some (r, D) ∧ Rel C D
theorem Rel_err {C D : Mm} (h : Rel C D) {k : Nat} (h1 : 1 ≤ k) (h6 : k ≤ 6) : Rel (wr C 172 k (C 172 k + 1)) (wr D 4 k (D 4 k + 1)) := by
  obtain ⟨a1, a2, a3, a4, a5, a6⟩ := h
  refine ⟨?_, ?_, ?_, ?_, ?_, ?_⟩
  · rw [wr_c (by decide)]; exact a1
  · rw [wr_c (by decide)]
    exact RS_frame a1 (fun a ha => wr_c (by unfold shc at ha; omega)) a2
  · unfold RK at *
    rw [wr_c (by decide), wr_c (by decide), wr_c (show (2 : Nat) ≠ 4 by decide)]
    refine ⟨a3.1, fun hn => ?_⟩
    obtain ⟨k1, k2⟩ := a3.2 hn
    exact ⟨k1, RS_frame k1 (fun a ha => wr_c (by unfold shc at ha; omega)) k2⟩
  · intro i i1 i6
    have := a4 i i1 i6
    by_cases e : i = k
    · subst e; rw [wr_s, wr_s, this]
    · rw [wr_j e, wr_j e]; exact this
  · unfold RT at *
    rw [wr_c (show (0 : Nat) ≠ 4 by decide), wr_c (show (12 : Nat) ≠ 4 by decide), wr_c (show (157 : Nat) ≠ 172 by decide), wr_c (show (158 : Nat) ≠ 172 by decide)]; exact a5
  · intro i hi
    rw [wr_c (show (160 + 3 * i) ≠ 172 by omega), wr_c (show (161 + 3 * i) ≠ 172 by omega), wr_c (show (162 + 3 * i) ≠ 172 by omega), wr_c (show (13 : Nat) ≠ 4 by decide), wr_c (show (14 : Nat) ≠ 4 by decide), wr_c (show (15 : Nat) ≠ 4 by decide)]
    exact a6 i hi
theorem op_err {C D : Mm} (h : Rel C D) {k : Nat} (h1 : 1 ≤ k) (h6 : k ≤ 6) {r : Int32} : Op (some (r, wr C 172 k (C 172 k + 1))) (some (r, wr D 4 k (D 4 k + 1))) := ⟨_, _, _, rfl, rfl, Rel_err h h1 h6⟩
