/-! PURE 4: changes that keep Rel, one place at a time. -/
def softI (i : Nat) : Prop := i = 2 ∨ i = 3 ∨ i = 4 ∨ i = 7 ∨ (8 ≤ i ∧ i < 12) ∨ (12 ≤ i ∧ i < 180 ∧ (i - 12) % 7 ≠ 2 ∧ (i - 12) % 7 ≠ 5) ∨ (180 ≤ i ∧ i < 220 ∧ (i - 180) % 10 = 1)
theorem SI_soft {s t : Sx} (hs : SI s) (hE : ∀ i, i < 626 → ¬ softI i → t i = s i) (hb : SIb t) (hc : ∀ l, l < nL s → LOK t l) : SI t := by
  obtain ⟨a, b, c, d, e, f, g⟩ := hs
  unfold softI at hE
  have e0 : s 0 = t 0 := (hE 0 (by omega) (by omega)).symm
  have e1 : s 1 = t 1 := (hE 1 (by omega) (by omega)).symm
  have e5 : s 5 = t 5 := (hE 5 (by omega) (by omega)).symm
  have e6 : s 6 = t 6 := (hE 6 (by omega) (by omega)).symm
  have hL := a.1.2
  refine ⟨SIa_congr e0 e1 e5 e6 a, hb, ?_, SId_congr e0 hL (fun l h1 => (hE _ (by omega) (by omega)).symm) (fun p h1 => (hE _ (by omega) (by omega)).symm) (fun p j h1 h2 => (hE _ (by omega) (by omega)).symm) d, SIe_congr e1 a.2.1.2 (fun w j h1 h2 => (hE _ (by omega) (by omega)).symm) e, ⟨TOK_congr (fun j hj => (hE _ (by omega) (by omega)).symm) f.1, TOK_congr (fun j hj => (hE _ (by omega) (by omega)).symm) f.2⟩, SIg_congr e5 a.2.2.1.2 (fun j hj => (hE _ (by omega) (by omega)).symm) g⟩
  intro l hl
  exact hc l (by unfold nL at *; rw [e0]; exact hl)
theorem RS_soft {C C' : Mm} {s t : Sx} (hs : SI s) (hr : RS 0 C s) (hE : ∀ i, i < 626 → ¬ softI i → t i = s i) (hcells : ∀ a, 28 ≤ a → shc 0 a → C' a = C a) (h6 : C' 0 6 = C 0 6) (h12 : C' 0 12 = C 0 12) (hsc : C' 0 1 = t 2 ∧ C' 0 2 = t 3 ∧ C' 0 3 = t 4 ∧ C' 0 4 = t 7) (hk : RSk 0 C' t) (hh : RSh 0 C' t) (hl : ∀ i f, i < nL s → f < 7 → C' (4 + 1 * i) f = t (12 + 7 * i + f)) : RS 0 C' t := by
  obtain ⟨r1, r2, r3, r4, r5, r6, r7, r8, r9⟩ := hr
  obtain ⟨a, b, c, d, e, f, g⟩ := hs
  have hL := a.1.2
  have hW := a.2.1.2
  have hT := a.2.2.1.2
  have hQ := a.2.2.2.2
  unfold softI at hE
  unfold shc at hcells
  have e0 : t 0 = s 0 := hE 0 (by omega) (by omega)
  have e1 : t 1 = s 1 := hE 1 (by omega) (by omega)
  have e5 : t 5 = s 5 := hE 5 (by omega) (by omega)
  have e6 : t 6 = s 6 := hE 6 (by omega) (by omega)
  have eL : nL t = nL s := by unfold nL; rw [e0]
  have eW : nW t = nW s := by unfold nW; rw [e1]
  have eT : nT t = nT s := by unfold nT; rw [e5]
  have eQ : nQ t = nQ s := by unfold nQ; rw [e6]
  obtain ⟨q1, q2, q3, q4, q5, q6⟩ := r1
  refine ⟨⟨hsc.1, hsc.2.1, hsc.2.2.1, hsc.2.2.2, by rw [h6, e0]; exact q5, by rw [h12, e1]; exact q6⟩, hk, hh, fun i f hi hf => ?_, fun p hp => ?_, ⟨fun w hw => by rw [hcells (0 + 48 + 2 * w) (by omega) (by omega)]; exact r6.1 w hw, fun w hw => ?_⟩, fun u hu => ?_, ?_, ?_⟩
  · rw [eL] at hi
    have := hl i f hi hf
    rw [show 0 + 4 + i = 4 + 1 * i by omega]; exact this
  · have eP : nP t p = nP s p := by unfold nP; rw [hE _ (by omega) (by omega)]
    have hP8 := (d.1 p hp).2.1
    rw [hcells (0 + 29 + 2 * p) (by omega) (by omega), hcells (0 + 30 + 2 * p) (by omega) (by omega)]
    exact ⟨by rw [hE _ (by omega) (by omega)]; exact (r5 p hp).1, fun j hj => by rw [eP] at hj; rw [hE _ (by omega) (by omega)]; exact (r5 p hp).2 j hj⟩
  · rw [eW] at hw
    have eV : nV t w = nV s w := by unfold nV; rw [hE _ (by omega) (by omega)]
    have hV8 := (e w hw).2.2.1
    rw [hcells (0 + 48 + 2 * w) (by omega) (by omega), hcells (0 + 49 + 2 * w) (by omega) (by omega)]
    exact ⟨by rw [hE _ (by omega) (by omega)]; exact (r6.2 w hw).1, fun j hj => by rw [eV] at hj; rw [hE _ (by omega) (by omega)]; exact (r6.2 w hw).2 j hj⟩
  · have eX : nX t u = nX s u := by unfold nX; rw [hE _ (by omega) (by omega)]
    have hX : nX s u ≤ 60 := by
      rcases (show u = 0 ∨ u = 1 by omega) with rfl | rfl
      · exact f.1.2.1
      · exact f.2.2.1
    rw [hcells (0 + 38 + 5 * u) (by omega) (by omega), hcells (0 + 39 + 5 * u) (by omega) (by omega)]
    refine ⟨by rw [hE _ (by omega) (by omega)]; exact (r7 u hu).1, fun k hk2 => ?_⟩
    rw [eX] at hk2
    rw [hE (293 + 125 * u + 2 * k) (by omega) (by omega), hE (294 + 125 * u + 2 * k) (by omega) (by omega)]
    exact (r7 u hu).2 k hk2
  · unfold RSa at *
    rw [hcells (0 + 64) (by omega) (by omega), hcells (0 + 65) (by omega) (by omega)]
    exact ⟨by rw [e5]; exact r8.1, fun j hj => by rw [eT] at hj; rw [hE _ (by omega) (by omega)]; exact r8.2 j hj⟩
  · unfold RSq at *
    rw [hcells (0 + 66) (by omega) (by omega), hcells (0 + 67) (by omega) (by omega)]
    exact ⟨by rw [e6]; exact r9.1, fun j hj => by rw [eQ] at hj; rw [hE _ (by omega) (by omega)]; exact r9.2 j hj⟩
-- what Rel gives
theorem Rel.si {C D : Mm} (h : Rel C D) : SI (D 1) := h.1
theorem Rel.rs {C D : Mm} (h : Rel C D) : RS 0 C (D 1) := h.2.1
theorem RS.let {C : Mm} {s : Sx} (h : RS 0 C s) {i f : Nat} (hi : i < nL s) (hf : f < 7) : C (4 + 1 * i) f = s (12 + 7 * i + f) := by
  have := h.2.2.2.1 i f hi hf
  rw [show 0 + 4 + i = 4 + 1 * i by omega] at this; exact this
theorem SI.l24 {s : Sx} (h : SI s) : nL s ≤ 24 := h.1.1.2
theorem SI.l0 {s : Sx} (h : SI s) : s 0 = nI (nL s) := h.1.1.1
theorem CF_lo {C : Mm} {k j : Nat} {v : Int32} (h : k < 68) : CF C (wr C k j v) := fun a ha => wr_c (by omega)
theorem CF_mid {C : Mm} {k j : Nat} {v : Int32} (h : 136 ≤ k) (h2 : k < 157) : CF C (wr C k j v) := fun a ha => wr_c (by omega)
/-- one soft place of s, and the class's place for it -/
theorem r_soft {C D : Mm} (h : Rel C D) {k j i : Nat} {v : Int32} (hk : k < 28) (hi : softI i) (hb : SIb (upd (D 1) i v)) (hc : ∀ l, l < nL (D 1) → LOK (upd (D 1) i v) l)
    (h6 : ¬ (k = 0 ∧ (j = 6 ∨ j = 12))) (hsc : (k = 0 ∧ j = 1 ↔ i = 2) ∧ (k = 0 ∧ j = 2 ↔ i = 3) ∧ (k = 0 ∧ j = 3 ↔ i = 4) ∧ (k = 0 ∧ j = 4 ↔ i = 7)) (hkk : ∀ r, r < 4 → (k = 1 ∧ r = j ↔ 8 + r = i)) (hhh : ∀ p, p < 4 → (k = 2 ∧ p = j ↔ 181 + 10 * p = i)) (hll : ∀ l f, l < 24 → f < 7 → (4 + 1 * l = k ∧ f = j ↔ 12 + 7 * l + f = i)) : Rel (wr C k j v) (wr D 1 i v) := by
  have hs := h.si
  have hr := h.rs
  have hL := hs.l24
  have e1 : wr D 1 i v 1 = upd (D 1) i v := wr_k
  have hE : ∀ q, q < 626 → ¬ softI q → upd (D 1) i v q = D 1 q := fun q _ hq => upd_n (fun z => hq (z ▸ hi))
  obtain ⟨⟨q1, q2, q3, q4, q5, q6⟩, r2, r3, r4, -⟩ := id hr
  refine Rel_now h ?_ ?_ (CF_lo (by omega)) MF_1
  · rw [e1]; exact SI_soft hs hE hb hc
  · rw [e1]
    refine RS_soft hs hr hE (fun a h1 _ => wr_c (by omega)) ?_ ?_ ⟨?_, ?_, ?_, ?_⟩ (fun r hr4 => ?_) (fun p hp4 => ?_) (fun l f hl hf => ?_)
    · rw [wr_at, if_neg (by omega)]
    · rw [wr_at, if_neg (by omega)]
    · have := hsc.1
      rw [wr_at]; unfold upd
      by_cases hh : (2 : Nat) = i
      · rw [if_pos hh, if_pos (by omega)]
      · rw [if_neg hh, if_neg (by omega)]; exact q1
    · have := hsc.2.1
      rw [wr_at]; unfold upd
      by_cases hh : (3 : Nat) = i
      · rw [if_pos hh, if_pos (by omega)]
      · rw [if_neg hh, if_neg (by omega)]; exact q2
    · have := hsc.2.2.1
      rw [wr_at]; unfold upd
      by_cases hh : (4 : Nat) = i
      · rw [if_pos hh, if_pos (by omega)]
      · rw [if_neg hh, if_neg (by omega)]; exact q3
    · have := hsc.2.2.2
      rw [wr_at]; unfold upd
      by_cases hh : (7 : Nat) = i
      · rw [if_pos hh, if_pos (by omega)]
      · rw [if_neg hh, if_neg (by omega)]; exact q4
    · have := hkk r hr4
      rw [wr_at]; unfold upd
      by_cases hh : 8 + r = i
      · rw [if_pos hh, if_pos (by omega)]
      · rw [if_neg hh, if_neg (by omega)]; exact r2 r hr4
    · have := hhh p hp4
      rw [wr_at]; unfold upd
      by_cases hh : 181 + 10 * p = i
      · rw [if_pos hh, if_pos (by omega)]
      · rw [if_neg hh, if_neg (by omega)]; exact r3 p hp4
    · have := hll l f (by omega) hf
      rw [wr_at]; unfold upd
      by_cases hh : 12 + 7 * l + f = i
      · rw [if_pos hh, if_pos (by omega)]
      · rw [if_neg hh, if_neg (by omega)]; exact hr.let hl hf
theorem SIb_upd {s : Sx} {i : Nat} {v : Int32} (h : SIb s) (hi : 12 ≤ i ∨ i = 4 ∨ i = 7) : SIb (upd s i v) := by
  unfold SIb at *
  rw [upd_n (show 2 ≠ i by omega), upd_n (show 3 ≠ i by omega)]
  exact ⟨h.1, h.2.1, fun r hr => by rw [upd_n (show 8 + r ≠ i by omega)]; exact h.2.2 r hr⟩
theorem LOK_upd {s : Sx} {i l : Nat} {v : Int32} (h : LOK s l) (hi : i < 12 + 7 * l ∨ 19 + 7 * l ≤ i) : LOK (upd s i v) l :=
  LOK_congr (fun f hf => (upd_n (show 12 + 7 * l + f ≠ i by omega)).symm) h
theorem r_water {C D : Mm} (h : Rel C D) {v : Int32} (h0 : 0 ≤ v) (h9 : v ≤ 99999) : Rel (wr C 0 1 v) (wr D 1 2 v) := by
  have hs := h.si
  refine r_soft h (by omega) (by unfold softI; omega) ?_ (fun l hl => LOK_upd (hs.2.2.1 l hl) (by omega)) (by omega) (by omega) (by omega) (by omega) (by omega)
  have hb := hs.2.1
  unfold SIb at *
  exact ⟨⟨by rw [upd_s]; exact h0, by rw [upd_s]; exact h9⟩, by rw [upd_n (by decide)]; exact hb.2.1, fun r hr => by rw [upd_n (show 8 + r ≠ 2 by omega)]; exact hb.2.2 r hr⟩
theorem r_salt {C D : Mm} (h : Rel C D) {v : Int32} (h0 : 0 ≤ v) (h9 : v ≤ 9999) : Rel (wr C 0 2 v) (wr D 1 3 v) := by
  have hs := h.si
  refine r_soft h (by omega) (by unfold softI; omega) ?_ (fun l hl => LOK_upd (hs.2.2.1 l hl) (by omega)) (by omega) (by omega) (by omega) (by omega) (by omega)
  have hb := hs.2.1
  unfold SIb at *
  exact ⟨by rw [upd_n (by decide)]; exact hb.1, ⟨by rw [upd_s]; exact h0, by rw [upd_s]; exact h9⟩, fun r hr => by rw [upd_n (show 8 + r ≠ 3 by omega)]; exact hb.2.2 r hr⟩
theorem r_mist {C D : Mm} (h : Rel C D) {v : Int32} : Rel (wr C 0 3 v) (wr D 1 4 v) := by
  have hs := h.si
  exact r_soft h (by omega) (by unfold softI; omega) (SIb_upd hs.2.1 (by omega)) (fun l hl => LOK_upd (hs.2.2.1 l hl) (by omega)) (by omega) (by omega) (by omega) (by omega) (by omega)
theorem r_z {C D : Mm} (h : Rel C D) {v : Int32} : Rel (wr C 0 4 v) (wr D 1 7 v) := by
  have hs := h.si
  exact r_soft h (by omega) (by unfold softI; omega) (SIb_upd hs.2.1 (by omega)) (fun l hl => LOK_upd (hs.2.2.1 l hl) (by omega)) (by omega) (by omega) (by omega) (by omega) (by omega)
theorem r_cold {C D : Mm} (h : Rel C D) {r : Nat} {v : Int32} (hr : r < 4) (h0 : -9 ≤ v) (h9 : v ≤ 20) : Rel (wr C 1 r v) (wr D 1 (8 + r) v) := by
  have hs := h.si
  refine r_soft h (by omega) (by unfold softI; omega) ?_ (fun l hl => LOK_upd (hs.2.2.1 l hl) (by omega)) (by omega) (by omega) (by omega) (by omega) (by omega)
  have hb := hs.2.1
  unfold SIb at *
  refine ⟨by rw [upd_n (by omega)]; exact hb.1, by rw [upd_n (by omega)]; exact hb.2.1, fun q hq => ?_⟩
  by_cases e : q = r
  · subst e; rw [upd_s]; exact ⟨h0, h9⟩
  · rw [upd_n (show 8 + q ≠ 8 + r by omega)]; exact hb.2.2 q hq
theorem r_sheet {C D : Mm} (h : Rel C D) {p : Nat} {v : Int32} (hp : p < 4) : Rel (wr C 2 p v) (wr D 1 (181 + 10 * p) v) := by
  have hs := h.si
  have hL := hs.l24
  exact r_soft h (by omega) (by unfold softI; omega) (SIb_upd hs.2.1 (by omega)) (fun l hl => LOK_upd (hs.2.2.1 l hl) (by omega)) (by omega) (by omega) (by omega) (by omega) (by omega)
theorem r_let {C D : Mm} (h : Rel C D) {l f : Nat} {v : Int32} (hl : l < nL (D 1)) (hf : f = 0 ∨ f = 1 ∨ f = 3 ∨ f = 4 ∨ f = 6) (hok : LOK (upd (D 1) (12 + 7 * l + f) v) l) : Rel (wr C (4 + 1 * l) f v) (wr D 1 (12 + 7 * l + f) v) := by
  have hs := h.si
  have hL := hs.l24
  refine r_soft h (by omega) (by unfold softI; omega) (SIb_upd hs.2.1 (by omega)) (fun i hi => ?_) (by omega) (by omega) (by omega) (by omega) (by omega)
  by_cases e : i = l
  · subst e; exact hok
  · exact LOK_upd (hs.2.2.1 i hi) (by omega)
theorem LOK_kind {s : Sx} {l k : Nat} (h : LOK s l) (hk : k < 7) : LOK (upd s (12 + 7 * l + 0) (nI k)) l := by
  unfold LOK at *
  refine ⟨⟨k, hk, by simp [upd]⟩, ?_⟩
  simpa [upd] using h.2
theorem LOK_m {s : Sx} {l k : Nat} (h : LOK s l) (hk : k < 10) : LOK (upd s (12 + 7 * l + 1) (nI k)) l := by
  unfold LOK at *
  refine ⟨by simpa [upd] using h.1, ⟨k, hk, by simp [upd]⟩, ?_⟩
  simpa [upd] using h.2.2
theorem LOK_ice {s : Sx} {l k : Nat} (h : LOK s l) (hk : k ≤ 999) : LOK (upd s (12 + 7 * l + 3) (nI k)) l := by
  unfold LOK at *
  refine ⟨by simpa [upd] using h.1, by simpa [upd] using h.2.1, by simpa [upd] using h.2.2.1, ⟨k, hk, by simp [upd]⟩, ?_⟩
  simpa [upd] using h.2.2.2.2
theorem LOK_room {s : Sx} {l k : Nat} (h : LOK s l) (hk : k < 4) : LOK (upd s (12 + 7 * l + 4) (nI k)) l := by
  unfold LOK at *
  refine ⟨by simpa [upd] using h.1, by simpa [upd] using h.2.1, by simpa [upd] using h.2.2.1, by simpa [upd] using h.2.2.2.1, ⟨k, hk, by simp [upd]⟩, ?_⟩
  simpa [upd] using h.2.2.2.2.2
theorem LOK_age {s : Sx} {l k : Nat} (h : LOK s l) (hk : k ≤ 99) : LOK (upd s (12 + 7 * l + 6) (nI k)) l := by
  unfold LOK at *
  refine ⟨by simpa [upd] using h.1, by simpa [upd] using h.2.1, by simpa [upd] using h.2.2.1, by simpa [upd] using h.2.2.2.1, by simpa [upd] using h.2.2.2.2.1, by simpa [upd] using h.2.2.2.2.2.1, ⟨k, hk, by simp [upd]⟩⟩
