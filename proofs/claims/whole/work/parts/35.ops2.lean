/-! PURE 6: letters melted, cast, laid, sorted; numbers told. -/
theorem op_as {C D : Mm} (h : Rel C D) (a kd2 : Int32) : Op (fX9_as a kd2 C) (fX10_as a kd2 D) := by
  have err : Op (fX9_as_B21 C) (fX10_as_B18 D) := by
    unfold fX9_as_B21 fX10_as_B18
    rw [e_ref1, e_err1]
    exact op_err h (by decide) (by decide)
  unfold fX9_as fX10_as
  simp only [lt_e, bd_s, gd_t, e_isWithin, e_in, e_hold, e_held, e_isPageC, e_isPage, eq_self, if_true, if_false, Bool.false_eq_true, bi_t, bi_f, ix_lit0, ix_lit1, ix_lit2, ix_lit3, ix_lit4, ix_lit5, ix_lit6, ix_lit7, e_hasLetter, e_isLetter]
  rcases two_let h a with ⟨l, hl, hl24, rfl, w1, w2⟩ | ⟨w1, w2⟩
  · have hix : ix (nI l) = l := ix_nI (by omega)
    simp only [w1, w2, if_true]
    by_cases hk : wi kd2 0 6 = true
    · obtain ⟨q, hq, rfl⟩ := wi_in (n := 6) (by omega) hk
      obtain ⟨k, hk7, ek⟩ := (h.si.2.2.1 l hl).1
      have hkc : C (4 + 1 * l) 0 = nI k := (h.rs.let hl (f := 0) (by omega)).trans ek
      obtain ⟨r, i1, i2⟩ := isOf_eq hk7 (show q < 7 by omega) C
      obtain ⟨r2, j1, j2⟩ := isOf_eq hk7 (show q < 7 by omega) D
      have hrr : r = r2 := by
        have : ∀ M : Mm, ∃ r, fX10_isUnder (nI k) (nI q) M = some (r, M) := fun M => by
          obtain ⟨r, -, z⟩ := isOf_eq hk7 (show q < 7 by omega) M
          exact ⟨r, z⟩
        have e1 : (fX10_isUnder (nI k) (nI q) C).map Prod.fst = (fX10_isUnder (nI k) (nI q) D).map Prod.fst := by
          unfold fX10_isUnder fX10_isUnder_B29 fX10_isUnder_B19 fX10_isUnder_B33 fX10_isUnder_B34
          repeat (first | rfl | split)
        rw [i2, j2] at e1
        exact Option.some.inj e1
      subst hrr
      have i3 : fX3_isOf (4 + 1 * l) (nI q) C = some (r, C) := by
        unfold fX3_isOf
        rw [c_let l hl24, gd_t, lt_e, hkc]; exact i1
      simp only [hk, if_true, inb_nI (n := l) (N := 24) hl24 (by omega), gd_t, hix, c_let l hl24, i3, e_its0 hl24, bd_s, ek, j2]
      cases r with
      | true =>
        simp only [if_true, e_its3 hl24, bd_s]
        exact ⟨_, _, _, rfl, by unfold fX10_as_B51; rw [h.rs.let hl (f := 3) (by omega)], h⟩
      | false =>
        simp only [if_false, Bool.false_eq_true, e_ref5, e_err5, bd_s]
        unfold fX9_as_B59 fX10_as_B51
        exact op_err h (by decide) (by decide)
    · simp only [hk, if_false, Bool.false_eq_true]
      exact err
  · simp only [w1, w2, if_false, Bool.false_eq_true]
    exact err
-- sizes alone
def SZ (s : Sx) : Prop := nL s ≤ 24 ∧ nW s ≤ 8 ∧ nT s ≤ 60 ∧ nQ s ≤ 24 ∧ (∀ p, p < 4 → nP s p ≤ 8) ∧ (∀ w, w < nW s → nV s w ≤ 8) ∧ ∀ u, u < 2 → nX s u ≤ 60
theorem SI.sz {s : Sx} (h : SI s) : SZ s := by
  obtain ⟨a, b, c, d, e, f, g⟩ := h
  refine ⟨a.1.2, a.2.1.2, a.2.2.1.2, a.2.2.2.2, fun p hp => (d.1 p hp).2.1, fun w hw => (e w hw).2.2.1, fun u hu => ?_⟩
  rcases (show u = 0 ∨ u = 1 by omega) with rfl | rfl
  · exact f.1.2.1
  · exact f.2.2.1
theorem RS_letU {C : Mm} {s : Sx} {l f : Nat} {v : Int32} (hz : SZ s) (hr : RS 0 C s) (hl : l < 24) (hf : f < 7) : RS 0 (wr C (4 + 1 * l) f v) (upd s (12 + 7 * l + f) v) := by
  obtain ⟨r1, r2, r3, r4, r5, r6, r7, r8, r9⟩ := hr
  obtain ⟨z1, z2, z3, z4, z5, z6, z7⟩ := hz
  have hE : ∀ i, (i < 12 + 7 * l ∨ 19 + 7 * l ≤ i) → upd s (12 + 7 * l + f) v i = s i := fun i hi => upd_n (by omega)
  have eL : nL (upd s (12 + 7 * l + f) v) = nL s := by unfold nL; rw [hE 0 (by omega)]
  have eW : nW (upd s (12 + 7 * l + f) v) = nW s := by unfold nW; rw [hE 1 (by omega)]
  have eT : nT (upd s (12 + 7 * l + f) v) = nT s := by unfold nT; rw [hE 5 (by omega)]
  have eQ : nQ (upd s (12 + 7 * l + f) v) = nQ s := by unfold nQ; rw [hE 6 (by omega)]
  have hC : ∀ a, a ≠ 4 + 1 * l → wr C (4 + 1 * l) f v a = C a := fun a ha => wr_c ha
  refine ⟨?_, fun j hj => ?_, fun p hp => ?_, fun i g hi hg => ?_, fun p hp => ?_, ⟨fun w hw => by rw [hC _ (by omega)]; exact r6.1 w hw, fun w hw => ?_⟩, fun u hu => ?_, ?_, ?_⟩
  · unfold RSc at *
    rw [hC 0 (by omega), hE 2 (by omega), hE 3 (by omega), hE 4 (by omega), hE 7 (by omega), hE 0 (by omega), hE 1 (by omega)]; exact r1
  · rw [hC _ (by omega), hE _ (by omega)]; exact r2 j hj
  · rw [hC _ (by omega), hE _ (by omega)]; exact r3 p hp
  · rw [eL] at hi
    rw [wr_at]; unfold upd
    by_cases e : i = l ∧ g = f
    · rw [if_pos (by omega), if_pos (by omega)]
    · rw [if_neg (by omega), if_neg (by omega)]; exact r4 i g hi hg
  · have eP : nP (upd s (12 + 7 * l + f) v) p = nP s p := by unfold nP; rw [hE _ (by omega)]
    rw [hC _ (by omega), hC (0 + 30 + 2 * p) (by omega), hE _ (by omega), eP]
    have := z5 p hp
    exact ⟨(r5 p hp).1, fun j hj => by rw [hE _ (by omega)]; exact (r5 p hp).2 j hj⟩
  · rw [eW] at hw
    have eV : nV (upd s (12 + 7 * l + f) v) w = nV s w := by unfold nV; rw [hE _ (by omega)]
    have := z6 w hw
    rw [hC _ (by omega), hC (0 + 49 + 2 * w) (by omega), hE _ (by omega), eV]
    exact ⟨(r6.2 w hw).1, fun j hj => by rw [hE _ (by omega)]; exact (r6.2 w hw).2 j hj⟩
  · have eX : nX (upd s (12 + 7 * l + f) v) u = nX s u := by unfold nX; rw [hE _ (by omega)]
    rw [hC _ (by omega), hC (0 + 39 + 5 * u) (by omega), hE _ (by omega), eX]
    exact ⟨(r7 u hu).1, fun k hk => by rw [hE _ (by omega), hE _ (by omega)]; exact (r7 u hu).2 k hk⟩
  · unfold RSa at *
    rw [hC _ (by omega), hC (0 + 65) (by omega), hE 5 (by omega), eT]
    exact ⟨r8.1, fun j hj => by rw [hE _ (by omega)]; exact r8.2 j hj⟩
  · unfold RSq at *
    rw [hC _ (by omega), hC (0 + 67) (by omega), hE 6 (by omega), eQ]
    exact ⟨r9.1, fun j hj => by rw [hE _ (by omega)]; exact r9.2 j hj⟩
-- drops into the tray
theorem SI.water {s : Sx} (h : SI s) : ∃ a, a ≤ 99999 ∧ s 2 = nI a := by
  have := h.2.1.1
  exact nI_of2 (M := 99999) (by decide) (i32_nlt.mpr this.1) this.2
theorem SI.salt {s : Sx} (h : SI s) : ∃ a, a ≤ 9999 ∧ s 3 = nI a := by
  have := h.2.1.2.1
  exact nI_of2 (M := 9999) (by decide) (i32_nlt.mpr this.1) this.2
theorem hd_nI {a hi : Nat} (hh : hi < 2 ^ 31) (ha : a < 2 ^ 31) : hd (nI a) 0 (nI hi) = nI (min a hi) := by
  unfold hd
  rw [if_pos (nI_pos' ha)]
  by_cases h : a ≤ hi
  · rw [if_pos (by rw [le_nI ha hh]; exact h), Nat.min_eq_left h]
  · rw [if_neg (by rw [le_nI ha hh]; exact h), Nat.min_eq_right (by omega)]
theorem e_dripC {C : Mm} {a b : Nat} (hw : C 0 1 = nI a) (ha : a ≤ 99999) (hb : b ≤ 999) : fX7_dripInto (nI b) C = some ((), wr (wr C 0 1 (nI (min (a + b) 99999))) 0 3 (C 0 3 + nI (a + b - min (a + b) 99999))) := by
  unfold fX7_dripInto
  rw [hw, show (99999 : Int32) - nI a = nI (99999 - a) by rw [← pk_sub ha]; rfl]
  by_cases h : 99999 - a < b
  · rw [if_pos (show nI (99999 - a) < nI b by rw [lt_nI (by omega) (by omega)]; exact h)]
    simp only [lt_e, nI_add]
    rw [wr_at, if_neg (by omega), pk_sub (show 99999 - a ≤ b by omega), show a + (99999 - a) = min (a + b) 99999 by omega, show b - (99999 - a) = a + b - min (a + b) 99999 by omega]
  · rw [if_neg (show ¬ nI (99999 - a) < nI b by rw [lt_nI (by omega) (by omega)]; exact h)]
    simp only [lt_e, nI_add]
    rw [wr_at, if_neg (by omega), pk_sub (Nat.le_refl b), show a + b = min (a + b) 99999 by omega]
    rw [show b - b = min (a + b) 99999 - min (min (a + b) 99999) 99999 by omega, show min (min (a + b) 99999) 99999 = min (a + b) 99999 by omega]
theorem e_dripM {D : Mm} {a b : Nat} (hw : D 1 2 = nI a) (ha : a ≤ 99999) (hb : b ≤ 999) : fX10_drips (nI b) D = some ((), wr (wr D 1 2 (nI (min (a + b) 99999))) 1 4 (D 1 4 + nI (a + b - min (a + b) 99999))) := by
  unfold fX10_drips
  simp only [lt_e, ix_lit2, ix_lit4, hw, nI_add, e_held, bd_s]
  have e : hd (nI (a + b)) 0 99999 = nI (min (a + b) 99999) := hd_nI (hi := 99999) (by omega) (by omega)
  rw [e, wr_s, wr_at, if_neg (by omega), pk_sub (by omega)]
theorem op_melt {C D : Mm} (h : Rel C D) (a : Int32) : Op (fX9_melt a C) (fX10_melt a D) := by
  unfold fX9_melt fX10_melt
  simp only [lt_e, bd_s, gd_t, e_isWithin, e_in, e_hold, e_held, e_isPageC, e_isPage, eq_self, if_true, if_false, Bool.false_eq_true, bi_t, bi_f, ix_lit0, ix_lit1, ix_lit2, ix_lit3, ix_lit4, ix_lit5, ix_lit6, ix_lit7, e_hasLetter, e_isLetter]
  rcases two_let h a with ⟨l, hl, hl24, rfl, w1, w2⟩ | ⟨w1, w2⟩
  · have hix : ix (nI l) = l := ix_nI (by omega)
    have hlok := h.si.2.2.1 l hl
    obtain ⟨b, hb, eb⟩ := hlok.2.2.2.1
    obtain ⟨wt, hwt, ewt⟩ := h.si.water
    have hi := h.rs.let hl (f := 3) (by omega)
    have hpg := h.rs.let hl (f := 5) (by omega)
    simp only [w1, w2, if_true, inb_nI (n := l) (N := 24) hl24 (by omega), gd_t, hix, c_let l hl24, e_its5 hl24, bd_s, hpg]
    rcases hlok.2.2.2.2.2.1 with hp | ⟨p, hp4, hp⟩
    · simp only [hp, show ((-1 : Int32) < 0) = True from eq_true (by decide), if_true, e_its3 hl24, e_lays3 hl24, bd_s]
      unfold fX3_takeIce
      simp only [c_let l hl24, gd_t, lt_e, bd_s, hi, Int32.sub_self, eb]
      have hok := LOK_ice hlok (k := 0) (by omega)
      have h1 := r_let h hl (f := 3) (by omega) hok
      have hwC : (wr C (4 + 1 * l) 3 0) 0 1 = nI wt := by rw [wr_at, if_neg (by omega)]; exact h.rs.1.1.trans ewt
      have hwD : (wr D 1 (12 + 7 * l + 3) 0) 1 2 = nI wt := by rw [wr_at, if_neg (by omega)]; exact ewt
      rw [e_dripC hwC hwt hb, e_dripM hwD hwt hb]
      refine ⟨_, _, _, rfl, rfl, ?_⟩
      have e3 : (wr C (4 + 1 * l) 3 0) 0 3 = (wr D 1 (12 + 7 * l + 3) 0) 1 4 := by
        rw [wr_at, if_neg (by omega), wr_at, if_neg (by omega)]; exact h.rs.1.2.2.1
      rw [e3]
      exact r_mist (r_water h1 (nI_pos' (by omega)) (nI_le (b := 99999) (by omega) (by omega)))
    · simp only [hp, show (nI p < 0) = False from eq_false (nI_pos (by omega)), show (nI p = -1) = False from eq_false (fun e => by
        have h1 : ¬ nI p < 0 := nI_pos (by omega)
        rw [e] at h1; exact h1 (by decide)), if_false, e_ref3, e_err3, bd_s]
      exact op_err h (by decide) (by decide)
  · simp only [w1, w2, if_false, Bool.false_eq_true, e_ref1, e_err1, bd_s]
    exact op_err h (by decide) (by decide)
theorem op_tell {C D : Mm} (h : Rel C D) (v : Int32) : Op (fX9_tell v C) (fX10_tell v D) := by
  obtain ⟨a, b, c, d, e, f, g⟩ := id h.si
  obtain ⟨r1, r2, r3, r4, r5, r6, r7, r8, r9⟩ := id h.rs
  have hq := a.2.2.2
  have hc : isC layC 66 5 = true := by decide
  have hcap : aN layC (66 + 1) = 24 := by decide
  have eC : C 66 1 = nI (nQ (D 1)) := r9.1.trans hq.1
  unfold fX9_tell fX10_tell fX9_tell_B33
  simp only [ix_lit6]
  by_cases hn : nQ (D 1) = 24
  · rw [e_addF hc eC (by omega), show D 1 6 = 24 by rw [hq.1, hn]; rfl]
    simp only [bd_s, if_true, if_false, Bool.false_eq_true, e_ref4, e_err4]
    exact op_err h (by decide) (by decide)
  · have hlt : nQ (D 1) < 24 := by omega
    rw [e_add hc eC (by omega), if_neg (by rw [hq.1, show (24 : Int32) = nI 24 from rfl, eq_nI (by omega) (by omega)]; exact hn)]
    have ei : (602 : Int32) + D 1 6 = nI (602 + nQ (D 1)) := by rw [hq.1, ← nI_add]; rfl
    rw [ei]
    simp only [bd_s, if_true, inb_nI (n := 602 + nQ (D 1)) (N := 626) (by omega) (by omega), gd_t, ix_nI (n := 602 + nQ (D 1)) (by omega), lt_e, wr_s]
    have e6 : wr D 1 (602 + nQ (D 1)) v 1 6 + 1 = nI (nQ (D 1) + 1) := by rw [wr_at, if_neg (by omega), hq.1, nI_1]
    rw [e6]
    refine ⟨_, _, _, rfl, rfl, ?_⟩
    generalize hn0 : nQ (D 1) = n at *
    have e1 : wr (wr D 1 (602 + n) v) 1 6 (nI (n + 1)) 1 = upd (upd (D 1) (602 + n) v) 6 (nI (n + 1)) := by rw [wr_k, wr_k]
    have hE : ∀ i, i ≠ 6 → i ≠ 602 + n → upd (upd (D 1) (602 + n) v) 6 (nI (n + 1)) i = D 1 i := fun i h1 h2 => by rw [upd_n h1, upd_n h2]
    have hCC : ∀ k, k ≠ 66 → k ≠ 67 → wr (wr C (66 + 1) n v) 66 1 (nI (n + 1)) k = C k := fun k h1 h2 => by rw [wr_c h1, wr_c h2]
    have eQ : nQ (upd (upd (D 1) (602 + n) v) 6 (nI (n + 1))) = n + 1 := by unfold nQ; rw [upd_s, ix_nI (by omega)]
    have hL := a.1.2
    refine Rel_now h ?_ ?_ ((CF_lo (by omega)).tr (CF_lo (by omega))) (MF_1.tr MF_1)
    · rw [e1]
      refine ⟨⟨by unfold nL at *; rw [hE 0 (by omega) (by omega)]; exact a.1, by unfold nW at *; rw [hE 1 (by omega) (by omega)]; exact a.2.1, by unfold nT at *; rw [hE 5 (by omega) (by omega)]; exact a.2.2.1, by rw [eQ, upd_s]; exact ⟨rfl, by omega⟩⟩, ?_, SIc_congr (hE 0 (by omega) (by omega)).symm hL (fun l f h1 h2 => (hE _ (by omega) (by omega)).symm) c, SId_congr (hE 0 (by omega) (by omega)).symm hL (fun l h1 => (hE _ (by omega) (by omega)).symm) (fun p h1 => (hE _ (by omega) (by omega)).symm) (fun p j h1 h2 => (hE _ (by omega) (by omega)).symm) d, SIe_congr (hE 1 (by omega) (by omega)).symm a.2.1.2 (fun w j h1 h2 => (hE _ (by omega) (by omega)).symm) e, ⟨TOK_congr (fun j hj => (hE _ (by omega) (by omega)).symm) f.1, TOK_congr (fun j hj => (hE _ (by omega) (by omega)).symm) f.2⟩, SIg_congr (hE 5 (by omega) (by omega)).symm a.2.2.1.2 (fun j hj => (hE _ (by omega) (by omega)).symm) g⟩
      exact ⟨by rw [hE 2 (by omega) (by omega)]; exact b.1, by rw [hE 3 (by omega) (by omega)]; exact b.2.1, fun r hr => by rw [hE _ (by omega) (by omega)]; exact b.2.2 r hr⟩
    · rw [e1]
      obtain ⟨z1, z2, z3, z4, z5, z6, z7⟩ := h.si.sz
      have eL : nL (upd (upd (D 1) (602 + n) v) 6 (nI (n + 1))) = nL (D 1) := by unfold nL; rw [hE 0 (by omega) (by omega)]
      have eW : nW (upd (upd (D 1) (602 + n) v) 6 (nI (n + 1))) = nW (D 1) := by unfold nW; rw [hE 1 (by omega) (by omega)]
      have eT : nT (upd (upd (D 1) (602 + n) v) 6 (nI (n + 1))) = nT (D 1) := by unfold nT; rw [hE 5 (by omega) (by omega)]
      refine ⟨?_, fun j hj => ?_, fun p hp => ?_, fun i g hi hg => ?_, fun p hp => ?_, ⟨fun w hw => by rw [hCC _ (by omega) (by omega)]; exact r6.1 w hw, fun w hw => ?_⟩, fun u hu => ?_, ?_, ?_⟩
      · unfold RSc at *
        rw [hCC 0 (by omega) (by omega), hE 2 (by omega) (by omega), hE 3 (by omega) (by omega), hE 4 (by omega) (by omega), hE 7 (by omega) (by omega), hE 0 (by omega) (by omega), hE 1 (by omega) (by omega)]; exact r1
      · rw [hCC _ (by omega) (by omega), hE _ (by omega) (by omega)]; exact r2 j hj
      · rw [hCC _ (by omega) (by omega), hE _ (by omega) (by omega)]; exact r3 p hp
      · rw [eL] at hi
        rw [hCC _ (by omega) (by omega), hE _ (by omega) (by omega)]; exact r4 i g hi hg
      · have eP : nP (upd (upd (D 1) (602 + n) v) 6 (nI (n + 1))) p = nP (D 1) p := by unfold nP; rw [hE _ (by omega) (by omega)]
        have := z5 p hp
        rw [hCC _ (by omega) (by omega), hCC (0 + 30 + 2 * p) (by omega) (by omega), hE _ (by omega) (by omega), eP]
        exact ⟨(r5 p hp).1, fun j hj => by rw [hE _ (by omega) (by omega)]; exact (r5 p hp).2 j hj⟩
      · rw [eW] at hw
        have eV : nV (upd (upd (D 1) (602 + n) v) 6 (nI (n + 1))) w = nV (D 1) w := by unfold nV; rw [hE _ (by omega) (by omega)]
        have := z6 w hw
        rw [hCC _ (by omega) (by omega), hCC (0 + 49 + 2 * w) (by omega) (by omega), hE _ (by omega) (by omega), eV]
        exact ⟨(r6.2 w hw).1, fun j hj => by rw [hE _ (by omega) (by omega)]; exact (r6.2 w hw).2 j hj⟩
      · have eX : nX (upd (upd (D 1) (602 + n) v) 6 (nI (n + 1))) u = nX (D 1) u := by unfold nX; rw [hE _ (by omega) (by omega)]
        have := z7 u hu
        rw [hCC _ (by omega) (by omega), hCC (0 + 39 + 5 * u) (by omega) (by omega), hE _ (by omega) (by omega), eX]
        exact ⟨(r7 u hu).1, fun k hk => by rw [hE _ (by omega) (by omega), hE _ (by omega) (by omega)]; exact (r7 u hu).2 k hk⟩
      · unfold RSa at *
        rw [hCC _ (by omega) (by omega), hCC (0 + 65) (by omega) (by omega), hE 5 (by omega) (by omega), eT]
        exact ⟨r8.1, fun j hj => by rw [hE _ (by omega) (by omega)]; exact r8.2 j hj⟩
      · unfold RSq at *
        rw [eQ, upd_s]
        refine ⟨by rw [show 0 + 66 = 66 from rfl, wr_s], fun j hj => ?_⟩
        rw [show 0 + 67 = 66 + 1 from rfl, wr_c (by omega), wr_at, upd_n (show 602 + j ≠ 6 by omega)]
        unfold upd
        by_cases ej : j = n
        · rw [if_pos ⟨rfl, ej⟩, if_pos (by omega)]
        · rw [if_neg (by omega), if_neg (by omega)]; exact r9.2 j (by omega)
