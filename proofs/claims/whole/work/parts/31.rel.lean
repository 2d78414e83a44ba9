/-! PURE 2: the state of the reference's row s, its invariant SI, the class's shop beside it (RS), all of it (Rel). -/
abbrev Sx : Type := Nat → Int32
def EqS (s t : Sx) : Prop := ∀ j, j < 626 → s j = t j
def nL (s : Sx) : Nat := ix (s 0)
def nW (s : Sx) : Nat := ix (s 1)
def nT (s : Sx) : Nat := ix (s 5)
def nQ (s : Sx) : Nat := ix (s 6)
def nP (s : Sx) (p : Nat) : Nat := ix (s (180 + 10 * p))
def nX (s : Sx) (u : Nat) : Nat := ix (s (292 + 125 * u))
def nV (s : Sx) (w : Nat) : Nat := ix (s (220 + 9 * w))
def LOK (s : Sx) (l : Nat) : Prop := (∃ k, k < 7 ∧ s (12 + 7 * l) = nI k) ∧ (∃ k, k < 10 ∧ s (12 + 7 * l + 1) = nI k) ∧ (∃ k, 1 ≤ k ∧ k ≤ 26 ∧ s (12 + 7 * l + 2) = nI k) ∧ (∃ k, k ≤ 999 ∧ s (12 + 7 * l + 3) = nI k) ∧ (∃ k, k < 4 ∧ s (12 + 7 * l + 4) = nI k) ∧ (s (12 + 7 * l + 5) = -1 ∨ ∃ p, p < 4 ∧ s (12 + 7 * l + 5) = nI p) ∧ (∃ k, k ≤ 99 ∧ s (12 + 7 * l + 6) = nI k)
def POK (s : Sx) (p : Nat) : Prop := s (180 + 10 * p) = nI (nP s p) ∧ nP s p ≤ 8 ∧ (∀ j, j < nP s p → ∃ l, l < nL s ∧ s (182 + 10 * p + j) = nI l ∧ s (12 + 7 * l + 5) = nI p) ∧ ∀ i j, i < nP s p → j < nP s p → s (182 + 10 * p + i) = s (182 + 10 * p + j) → i = j
def WOK (s : Sx) (w : Nat) : Prop := s (220 + 9 * w) = nI (nV s w) ∧ 1 ≤ nV s w ∧ nV s w ≤ 8 ∧ ∀ j, j < nV s w → ∃ g, 1 ≤ g ∧ g ≤ 26 ∧ s (221 + 9 * w + j) = nI g
def dpt (s : Sx) (u : Nat) : Nat → Nat
  | 0 => 0
  | k + 1 => if s (293 + 125 * u + 2 * k) = 0 ∨ s (293 + 125 * u + 2 * k) = 1 then dpt s u k + 1 else if s (293 + 125 * u + 2 * k) = 2 then dpt s u k else dpt s u k - 1
def isNm (u : Nat) (v : Int32) : Prop := (u = 0 ∧ (v = 105 ∨ v = 99 ∨ v = 97 ∨ v = 109)) ∨ (u = 1 ∧ (v = 114 ∨ v = 115 ∨ v = 103))
def isSg (v : Int32) : Prop := v = 124 ∨ v = 38 ∨ v = 60 ∨ v = 61 ∨ v = 62 ∨ v = 43 ∨ v = 45 ∨ v = 42 ∨ v = 47 ∨ v = 37
def SOK (u : Nat) (w v : Int32) (d : Nat) : Prop := w = 0 ∨ (w = 1 ∧ isNm u v) ∨ (w = 2 ∧ 1 ≤ d) ∨ (w = 3 ∧ 2 ≤ d ∧ isSg v)
def TOK (s : Sx) (u : Nat) : Prop := s (292 + 125 * u) = nI (nX s u) ∧ nX s u ≤ 60 ∧ ∀ k, k < nX s u → SOK u (s (293 + 125 * u + 2 * k)) (s (294 + 125 * u + 2 * k)) (dpt s u k)
def SIa (s : Sx) : Prop := (s 0 = nI (nL s) ∧ nL s ≤ 24) ∧ (s 1 = nI (nW s) ∧ nW s ≤ 8) ∧ (s 5 = nI (nT s) ∧ nT s ≤ 60) ∧ (s 6 = nI (nQ s) ∧ nQ s ≤ 24)
def SIb (s : Sx) : Prop := (0 ≤ s 2 ∧ s 2 ≤ 99999) ∧ (0 ≤ s 3 ∧ s 3 ≤ 9999) ∧ ∀ r, r < 4 → -9 ≤ s (8 + r) ∧ s (8 + r) ≤ 20
def SIc (s : Sx) : Prop := ∀ l, l < nL s → LOK s l
def SId (s : Sx) : Prop := (∀ p, p < 4 → POK s p) ∧ ∀ l p, l < nL s → p < 4 → s (12 + 7 * l + 5) = nI p → ∃ j, j < nP s p ∧ s (182 + 10 * p + j) = nI l
def SIe (s : Sx) : Prop := ∀ w, w < nW s → WOK s w
def SIf (s : Sx) : Prop := TOK s 0 ∧ TOK s 1
def SIg (s : Sx) : Prop := ∀ j, j < nT s → ∃ k, k ≤ 255 ∧ s (542 + j) = nI k
def SI (s : Sx) : Prop := SIa s ∧ SIb s ∧ SIc s ∧ SId s ∧ SIe s ∧ SIf s ∧ SIg s
theorem EqS.rf (s : Sx) : EqS s s := fun _ _ => rfl
theorem EqS.sy {s t : Sx} (h : EqS s t) : EqS t s := fun j hj => (h j hj).symm
theorem EqS.tr {s t u : Sx} (h : EqS s t) (h2 : EqS t u) : EqS s u := fun j hj => (h j hj).trans (h2 j hj)
theorem EqS.of {s t : Sx} (h : s = t) : EqS s t := fun j _ => by rw [h]
theorem dpt_congr {s t : Sx} {u : Nat} {n : Nat} (h : ∀ k, k < n → s (293 + 125 * u + 2 * k) = t (293 + 125 * u + 2 * k)) : ∀ k, k ≤ n → dpt s u k = dpt t u k
  | 0, _ => rfl
  | k + 1, hk => by
    have ih := dpt_congr h k (by omega)
    simp only [dpt, ih, h k (by omega)]
theorem SIa_congr {s t : Sx} (h0 : s 0 = t 0) (h1 : s 1 = t 1) (h5 : s 5 = t 5) (h6 : s 6 = t 6) (h : SIa s) : SIa t := by
  unfold SIa nL nW nT nQ at *; rw [← h0, ← h1, ← h5, ← h6]; exact h
theorem LOK_congr {s t : Sx} {l : Nat} (h : ∀ f, f < 7 → s (12 + 7 * l + f) = t (12 + 7 * l + f)) (hl : LOK s l) : LOK t l := by
  unfold LOK at *
  have h0 := h 0 (by omega)
  rw [Nat.add_zero] at h0
  rw [← h0, ← h 1 (by omega), ← h 2 (by omega), ← h 3 (by omega), ← h 4 (by omega), ← h 5 (by omega), ← h 6 (by omega)]
  exact hl
theorem SIc_congr {s t : Sx} (h0 : s 0 = t 0) (hL : nL s ≤ 24) (h : ∀ l f, l < 24 → f < 7 → s (12 + 7 * l + f) = t (12 + 7 * l + f)) (hc : SIc s) : SIc t := by
  intro l hl
  have hl : l < nL s := by unfold nL at *; rw [h0]; exact hl
  exact LOK_congr (fun f hf => h l f (by omega) hf) (hc l hl)
theorem SId_congr {s t : Sx} (h0 : s 0 = t 0) (hL : nL s ≤ 24) (hp : ∀ l, l < 24 → s (12 + 7 * l + 5) = t (12 + 7 * l + 5)) (hn : ∀ p, p < 4 → s (180 + 10 * p) = t (180 + 10 * p)) (hr : ∀ p j, p < 4 → j < 8 → s (182 + 10 * p + j) = t (182 + 10 * p + j)) (h : SId s) : SId t := by
  have eL : nL t = nL s := by unfold nL; rw [h0]
  have eP : ∀ p, p < 4 → nP t p = nP s p := fun p hp => by unfold nP; rw [hn p hp]
  refine ⟨fun p hp4 => ?_, fun l p hl hp4 he => ?_⟩
  · obtain ⟨a1, a2, a3, a4⟩ := h.1 p hp4
    refine ⟨by rw [← hn p hp4, eP p hp4]; exact a1, by rw [eP p hp4]; exact a2, fun j hj => ?_, fun i j hi hj he => ?_⟩
    · rw [eP p hp4] at hj
      obtain ⟨l, b1, b2, b3⟩ := a3 j hj
      exact ⟨l, by rw [eL]; exact b1, by rw [← hr p j hp4 (by omega)]; exact b2, by rw [← hp l (by omega)]; exact b3⟩
    · rw [eP p hp4] at hi hj
      exact a4 i j hi hj (by rw [hr p i hp4 (by omega), hr p j hp4 (by omega)]; exact he)
  · rw [eL] at hl
    obtain ⟨j, b1, b2⟩ := h.2 l p hl hp4 (by rw [hp l (by omega)]; exact he)
    have := (h.1 p hp4).2.1
    exact ⟨j, by rw [eP p hp4]; exact b1, by rw [← hr p j hp4 (by omega)]; exact b2⟩
theorem SIe_congr {s t : Sx} (h1 : s 1 = t 1) (hW : nW s ≤ 8) (h : ∀ w j, w < 8 → j < 9 → s (220 + 9 * w + j) = t (220 + 9 * w + j)) (he : SIe s) : SIe t := by
  intro w hw
  have hw : w < nW s := by unfold nW at *; rw [h1]; exact hw
  obtain ⟨a1, a2, a3, a4⟩ := he w hw
  have e0 := h w 0 (by omega) (by omega)
  rw [Nat.add_zero] at e0
  have eV : nV t w = nV s w := by unfold nV; rw [e0]
  refine ⟨by rw [← e0, eV]; exact a1, by rw [eV]; exact a2, by rw [eV]; exact a3, fun j hj => ?_⟩
  rw [eV] at hj
  obtain ⟨g, b1, b2, b3⟩ := a4 j hj
  refine ⟨g, b1, b2, ?_⟩
  have e := h w (1 + j) (by omega) (by omega)
  have e2 : 220 + 9 * w + (1 + j) = 221 + 9 * w + j := by omega
  rw [e2] at e
  rw [← e]; exact b3
theorem TOK_congr {s t : Sx} {u : Nat} (h : ∀ j, j < 125 → s (292 + 125 * u + j) = t (292 + 125 * u + j)) (ht : TOK s u) : TOK t u := by
  obtain ⟨a1, a2, a3⟩ := ht
  have e0 := h 0 (by omega)
  rw [Nat.add_zero] at e0
  have eX : nX t u = nX s u := by unfold nX; rw [e0]
  have ew : ∀ k, k < 60 → s (293 + 125 * u + 2 * k) = t (293 + 125 * u + 2 * k) := fun k hk => by
    have e := h (1 + 2 * k) (by omega)
    have e2 : 292 + 125 * u + (1 + 2 * k) = 293 + 125 * u + 2 * k := by omega
    rw [e2] at e; exact e
  have ev : ∀ k, k < 60 → s (294 + 125 * u + 2 * k) = t (294 + 125 * u + 2 * k) := fun k hk => by
    have e := h (2 + 2 * k) (by omega)
    have e2 : 292 + 125 * u + (2 + 2 * k) = 294 + 125 * u + 2 * k := by omega
    rw [e2] at e; exact e
  refine ⟨by rw [← e0, eX]; exact a1, by rw [eX]; exact a2, fun k hk => ?_⟩
  rw [eX] at hk
  rw [← ew k (by omega), ← ev k (by omega), ← dpt_congr (n := 60) ew k (by omega)]
  exact a3 k hk
theorem SIg_congr {s t : Sx} (h5 : s 5 = t 5) (hT : nT s ≤ 60) (h : ∀ j, j < 60 → s (542 + j) = t (542 + j)) (hg : SIg s) : SIg t := by
  intro j hj
  have hj : j < nT s := by unfold nT at *; rw [h5]; exact hj
  rw [← h j (by omega)]
  exact hg j hj
theorem SI_congr {s t : Sx} (h : EqS s t) (hs : SI s) : SI t := by
  obtain ⟨a, b, c, d, e, f, g⟩ := hs
  refine ⟨SIa_congr (h 0 (by omega)) (h 1 (by omega)) (h 5 (by omega)) (h 6 (by omega)) a, ?_, SIc_congr (h 0 (by omega)) a.1.2 (fun l f h1 h2 => h _ (by omega)) c, SId_congr (h 0 (by omega)) a.1.2 (fun l h1 => h _ (by omega)) (fun p h1 => h _ (by omega)) (fun p j h1 h2 => h _ (by omega)) d, SIe_congr (h 1 (by omega)) a.2.1.2 (fun w j h1 h2 => h _ (by omega)) e, ⟨TOK_congr (fun j hj => h _ (by omega)) f.1, TOK_congr (fun j hj => h _ (by omega)) f.2⟩, SIg_congr (h 5 (by omega)) a.2.2.1.2 (fun j hj => h _ (by omega)) g⟩
  unfold SIb at *
  refine ⟨by rw [← h 2 (by omega)]; exact b.1, by rw [← h 3 (by omega)]; exact b.2.1, fun r hr => ?_⟩
  rw [← h (8 + r) (by omega)]
  exact b.2.2 r hr
-- the class's shop at base B beside s
def nmch (u i : Nat) : Int32 := if u = 0 then ([105, 99, 97, 109] : List Int32).getD i 0 else ([114, 115, 103] : List Int32).getD i 0
def nmN (u : Nat) : Nat := if u = 0 then 4 else 3
def SR (u : Nat) (code w v : Int32) : Prop := (w = 0 ∧ code = v ∧ 0 ≤ v) ∨ (w = 1 ∧ ∃ i, i < nmN u ∧ code = -1 - nI i ∧ v = nmch u i) ∨ (w = 2 ∧ code = -33) ∨ (w = 3 ∧ code = -v ∧ isSg v)
def RSc (B : Nat) (C : Mm) (s : Sx) : Prop := C B 1 = s 2 ∧ C B 2 = s 3 ∧ C B 3 = s 4 ∧ C B 4 = s 7 ∧ C B 6 = s 0 ∧ C B 12 = s 1
def RSk (B : Nat) (C : Mm) (s : Sx) : Prop := ∀ j, j < 4 → C (B + 1) j = s (8 + j)
def RSh (B : Nat) (C : Mm) (s : Sx) : Prop := ∀ p, p < 4 → C (B + 2) p = s (181 + 10 * p)
def RSl (B : Nat) (C : Mm) (s : Sx) : Prop := ∀ i f, i < nL s → f < 7 → C (B + 4 + i) f = s (12 + 7 * i + f)
def RSp (B : Nat) (C : Mm) (s : Sx) : Prop := ∀ p, p < 4 → C (B + 29 + 2 * p) 1 = s (180 + 10 * p) ∧ ∀ j, j < nP s p → C (B + 30 + 2 * p) j = s (182 + 10 * p + j)
def RSw (B : Nat) (C : Mm) (s : Sx) : Prop := (∀ w, w < 8 → ∃ n, n ≤ 8 ∧ C (B + 48 + 2 * w) 1 = nI n) ∧ ∀ w, w < nW s → C (B + 48 + 2 * w) 1 = s (220 + 9 * w) ∧ ∀ j, j < nV s w → C (B + 49 + 2 * w) j = s (221 + 9 * w + j) + 96
def RSt (B : Nat) (C : Mm) (s : Sx) : Prop := ∀ u, u < 2 → C (B + 38 + 5 * u) 1 = s (292 + 125 * u) ∧ ∀ k, k < nX s u → SR u (C (B + 39 + 5 * u) k) (s (293 + 125 * u + 2 * k)) (s (294 + 125 * u + 2 * k))
def RSa (B : Nat) (C : Mm) (s : Sx) : Prop := C (B + 64) 1 = s 5 ∧ ∀ j, j < nT s → C (B + 65) j = s (542 + j)
def RSq (B : Nat) (C : Mm) (s : Sx) : Prop := C (B + 66) 1 = s 6 ∧ ∀ j, j < nQ s → C (B + 67) j = s (602 + j)
def RS (B : Nat) (C : Mm) (s : Sx) : Prop := RSc B C s ∧ RSk B C s ∧ RSh B C s ∧ RSl B C s ∧ RSp B C s ∧ RSw B C s ∧ RSt B C s ∧ RSa B C s ∧ RSq B C s
theorem RS_congr {B : Nat} {C : Mm} {s t : Sx} (h : EqS s t) (hs : SI s) (hr : RS B C s) : RS B C t := by
  obtain ⟨r1, r2, r3, r4, r5, r6, r7, r8, r9⟩ := hr
  obtain ⟨a, b, c, d, e, f, g⟩ := hs
  have eL : nL t = nL s := by unfold nL; rw [h 0 (by omega)]
  have eW : nW t = nW s := by unfold nW; rw [h 1 (by omega)]
  have eT : nT t = nT s := by unfold nT; rw [h 5 (by omega)]
  have eQ : nQ t = nQ s := by unfold nQ; rw [h 6 (by omega)]
  have hL := a.1.2
  have hW := a.2.1.2
  have hT := a.2.2.1.2
  have hQ := a.2.2.2.2
  refine ⟨?_, fun j hj => by rw [← h _ (by omega)]; exact r2 j hj, fun p hp => by rw [← h _ (by omega)]; exact r3 p hp, fun i f hi hf => by rw [eL] at hi; rw [← h _ (by omega)]; exact r4 i f hi hf, fun p hp => ?_, ⟨r6.1, fun w hw => ?_⟩, fun u hu => ?_, ?_, ?_⟩
  · unfold RSc at *
    rw [← h 2 (by omega), ← h 3 (by omega), ← h 4 (by omega), ← h 7 (by omega), ← h 0 (by omega), ← h 1 (by omega)]
    exact r1
  · have eP : nP t p = nP s p := by unfold nP; rw [h _ (by omega)]
    have := (d.1 p hp).2.1
    exact ⟨by rw [← h _ (by omega)]; exact (r5 p hp).1, fun j hj => by rw [eP] at hj; rw [← h _ (by omega)]; exact (r5 p hp).2 j hj⟩
  · rw [eW] at hw
    have eV : nV t w = nV s w := by unfold nV; rw [h _ (by omega)]
    have := (e w hw).2.2.1
    exact ⟨by rw [← h _ (by omega)]; exact (r6.2 w hw).1, fun j hj => by rw [eV] at hj; rw [← h _ (by omega)]; exact (r6.2 w hw).2 j hj⟩
  · have eX : nX t u = nX s u := by unfold nX; rw [h _ (by omega)]
    have hX : nX s u ≤ 60 := by
      rcases (show u = 0 ∨ u = 1 by omega) with rfl | rfl
      · exact f.1.2.1
      · exact f.2.2.1
    refine ⟨by rw [← h _ (by omega)]; exact (r7 u hu).1, fun k hk => ?_⟩
    rw [eX] at hk
    rw [← h _ (by omega), ← h _ (by omega)]
    exact (r7 u hu).2 k hk
  · exact ⟨by rw [← h 5 (by omega)]; exact r8.1, fun j hj => by rw [eT] at hj; rw [← h _ (by omega)]; exact r8.2 j hj⟩
  · exact ⟨by rw [← h 6 (by omega)]; exact r9.1, fun j hj => by rw [eQ] at hj; rw [← h _ (by omega)]; exact r9.2 j hj⟩
/-- cells of a shop that count: not the rows in which texts are worked out -/
def shc (B a : Nat) : Prop := B ≤ a ∧ a < B + 68 ∧ a ≠ B + 40 ∧ a ≠ B + 41 ∧ a ≠ B + 45 ∧ a ≠ B + 46
theorem RS_frame {B : Nat} {C C' : Mm} {s : Sx} (hs : SI s) (hc : ∀ a, shc B a → C' a = C a) (hr : RS B C s) : RS B C' s := by
  obtain ⟨r1, r2, r3, r4, r5, r6, r7, r8, r9⟩ := hr
  obtain ⟨a, b, c, d, e, f, g⟩ := hs
  have hL := a.1.2
  have hW := a.2.1.2
  unfold shc at hc
  refine ⟨?_, fun j hj => by rw [hc _ (by omega)]; exact r2 j hj, fun p hp => by rw [hc _ (by omega)]; exact r3 p hp, fun i f hi hf => by rw [hc _ (by omega)]; exact r4 i f hi hf, fun p hp => by rw [hc (B + 29 + 2 * p) (by omega), hc (B + 30 + 2 * p) (by omega)]; exact r5 p hp, ⟨fun w hw => by rw [hc (B + 48 + 2 * w) (by omega)]; exact r6.1 w hw, fun w hw => by rw [hc (B + 48 + 2 * w) (by omega), hc (B + 49 + 2 * w) (by omega)]; exact r6.2 w hw⟩, fun u hu => by rw [hc (B + 38 + 5 * u) (by omega), hc (B + 39 + 5 * u) (by omega)]; exact r7 u hu, ?_, ?_⟩
  · unfold RSc at *; rw [hc B (by omega)]; exact r1
  · unfold RSa at *; rw [hc (B + 64) (by omega), hc (B + 65) (by omega)]; exact r8
  · unfold RSq at *; rw [hc (B + 66) (by omega), hc (B + 67) (by omega)]; exact r9
-- all of it
def RK (C D : Mm) : Prop := C 173 2 = D 0 3 ∧ (¬ D 0 3 = 0 → SI (D 2) ∧ RS 68 C (D 2))
def RE (C D : Mm) : Prop := ∀ k, 1 ≤ k → k ≤ 6 → C 172 k = D 4 k
def RT (C D : Mm) : Prop := (∃ t, t ≤ 30 ∧ D 0 19 = nI t) ∧ C 157 1 = D 0 19 ∧ ∀ j, j < ix (D 0 19) → C 158 j = D 12 j
def RP (C D : Mm) : Prop := ∀ i, i < 4 → C (160 + 3 * i) 1 = D 13 i ∧ (D 13 i = 0 ∨ D 13 i = 8 ∨ D 13 i = 16 ∨ D 13 i = 32) ∧ C (161 + 3 * i) 1 = D 14 i ∧ (∃ n, n ≤ 24 ∧ D 14 i = nI n) ∧ ∀ j, j < ix (D 14 i) → C (162 + 3 * i) j = D 15 (24 * i + j)
def Rel (C D : Mm) : Prop := SI (D 1) ∧ RS 0 C (D 1) ∧ RK C D ∧ RE C D ∧ RT C D ∧ RP C D
/-- what the other parts of Rel look at -/
def CF (C C' : Mm) : Prop := ∀ a, (68 ≤ a ∧ a < 136 ∧ a ≠ 108 ∧ a ≠ 109 ∧ a ≠ 113 ∧ a ≠ 114) ∨ 157 ≤ a → C' a = C a
def MF (D D' : Mm) : Prop := D' 2 = D 2 ∧ D' 4 = D 4 ∧ D' 12 = D 12 ∧ D' 13 = D 13 ∧ D' 14 = D 14 ∧ D' 15 = D 15 ∧ D' 0 3 = D 0 3 ∧ D' 0 19 = D 0 19
theorem CF.rf (C : Mm) : CF C C := fun _ _ => rfl
theorem CF.tr {A B C : Mm} (h : CF A B) (h2 : CF B C) : CF A C := fun a ha => (h2 a ha).trans (h a ha)
theorem MF.rf (C : Mm) : MF C C := ⟨rfl, rfl, rfl, rfl, rfl, rfl, rfl, rfl⟩
theorem MF.tr {A B C : Mm} (h : MF A B) (h2 : MF B C) : MF A C := by
  obtain ⟨a1, a2, a3, a4, a5, a6, a7, a8⟩ := h
  obtain ⟨b1, b2, b3, b4, b5, b6, b7, b8⟩ := h2
  exact ⟨b1.trans a1, b2.trans a2, b3.trans a3, b4.trans a4, b5.trans a5, b6.trans a6, b7.trans a7, b8.trans a8⟩
theorem Rel_now {C C' D D' : Mm} (h : Rel C D) (hs : SI (D' 1)) (hr : RS 0 C' (D' 1)) (hc : CF C C') (hd : MF D D') : Rel C' D' := by
  obtain ⟨h1, h2, h3, h4, h5, h6⟩ := h
  obtain ⟨d1, d2, d3, d4, d5, d6, d7, d8⟩ := hd
  refine ⟨hs, hr, ?_, ?_, ?_, ?_⟩
  · unfold RK at *
    rw [d7, d1, hc 173 (by omega)]
    refine ⟨h3.1, fun hn => ?_⟩
    obtain ⟨k1, k2⟩ := h3.2 hn
    exact ⟨k1, RS_frame k1 (fun a ha => hc a (by unfold shc at ha; omega)) k2⟩
  · intro k k1 k2
    rw [hc 172 (by omega), d2]; exact h4 k k1 k2
  · unfold RT at *
    rw [d8, d3, hc 157 (by omega), hc 158 (by omega)]; exact h5
  · intro i hi
    rw [hc (160 + 3 * i) (by omega), hc (161 + 3 * i) (by omega), hc (162 + 3 * i) (by omega), d4, d5, d6]
    exact h6 i hi
