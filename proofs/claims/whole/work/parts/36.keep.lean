/-! PURE 7: parts that stay, by ranges. -/
theorem kC {s t : Sx} (h0 : t 0 = s 0) (hL : nL s ≤ 24) (h : ∀ i, 12 ≤ i → i < 180 → t i = s i) (hc : SIc s) : SIc t := SIc_congr h0.symm hL (fun l f h1 h2 => (h _ (by omega) (by omega)).symm) hc
theorem kD {s t : Sx} (h0 : t 0 = s 0) (hL : nL s ≤ 24) (h : ∀ i, 12 ≤ i → i < 220 → t i = s i) (hd : SId s) : SId t := SId_congr h0.symm hL (fun l h1 => (h _ (by omega) (by omega)).symm) (fun p h1 => (h _ (by omega) (by omega)).symm) (fun p j h1 h2 => (h _ (by omega) (by omega)).symm) hd
theorem kE {s t : Sx} (h1 : t 1 = s 1) (hW : nW s ≤ 8) (h : ∀ i, 220 ≤ i → i < 292 → t i = s i) (he : SIe s) : SIe t := SIe_congr h1.symm hW (fun w j h1 h2 => (h _ (by omega) (by omega)).symm) he
theorem kF {s t : Sx} (h : ∀ i, 292 ≤ i → i < 542 → t i = s i) (hf : SIf s) : SIf t := ⟨TOK_congr (fun j hj => (h _ (by omega) (by omega)).symm) hf.1, TOK_congr (fun j hj => (h _ (by omega) (by omega)).symm) hf.2⟩
theorem kG {s t : Sx} (h5 : t 5 = s 5) (hT : nT s ≤ 60) (h : ∀ i, 542 ≤ i → i < 602 → t i = s i) (hg : SIg s) : SIg t := SIg_congr h5.symm hT (fun j hj => (h _ (by omega) (by omega)).symm) hg
theorem kB {s t : Sx} (h2 : t 2 = s 2) (h3 : t 3 = s 3) (h : ∀ i, 8 ≤ i → i < 12 → t i = s i) (hb : SIb s) : SIb t := ⟨by rw [h2]; exact hb.1, by rw [h3]; exact hb.2.1, fun r hr => by rw [h _ (by omega) (by omega)]; exact hb.2.2 r hr⟩
theorem kk {C C' : Mm} {s t : Sx} (hc : C' 1 = C 1) (h : ∀ i, 8 ≤ i → i < 12 → t i = s i) (hr : RSk 0 C s) : RSk 0 C' t := fun j hj => by rw [show 0 + 1 = 1 from rfl, hc, h _ (by omega) (by omega)]; exact hr j hj
theorem kh {C C' : Mm} {s t : Sx} (hc : C' 2 = C 2) (h : ∀ p, p < 4 → t (181 + 10 * p) = s (181 + 10 * p)) (hr : RSh 0 C s) : RSh 0 C' t := fun p hp => by rw [show 0 + 2 = 2 from rfl, hc, h p hp]; exact hr p hp
theorem kl {C C' : Mm} {s t : Sx} (h0 : t 0 = s 0) (hL : nL s ≤ 24) (hc : ∀ a, 4 ≤ a → a < 28 → C' a = C a) (h : ∀ i, 12 ≤ i → i < 180 → t i = s i) (hr : RSl 0 C s) : RSl 0 C' t := fun i f hi hf => by
  have hi : i < nL s := by unfold nL at *; rw [← h0]; exact hi
  rw [hc _ (by omega) (by omega), h _ (by omega) (by omega)]; exact hr i f hi hf
theorem kp {C C' : Mm} {s t : Sx} (hP : ∀ p, p < 4 → nP s p ≤ 8) (hc : ∀ a, 29 ≤ a → a < 37 → C' a = C a) (h : ∀ p j, p < 4 → j < 10 → j ≠ 1 → t (180 + 10 * p + j) = s (180 + 10 * p + j)) (hr : RSp 0 C s) : RSp 0 C' t := fun p hp => by
  have e0 := h p 0 hp (by omega) (by omega)
  rw [Nat.add_zero] at e0
  have eP : nP t p = nP s p := by unfold nP; rw [e0]
  have := hP p hp
  rw [hc _ (by omega) (by omega), hc (0 + 30 + 2 * p) (by omega) (by omega), e0, eP]
  refine ⟨(hr p hp).1, fun j hj => ?_⟩
  have e := h p (2 + j) hp (by omega) (by omega)
  rw [show 180 + 10 * p + (2 + j) = 182 + 10 * p + j by omega] at e
  rw [e]; exact (hr p hp).2 j hj
theorem kw {C C' : Mm} {s t : Sx} (h1 : t 1 = s 1) (hW : nW s ≤ 8) (hV : ∀ w, w < nW s → nV s w ≤ 8) (hc : ∀ a, 48 ≤ a → a < 64 → C' a = C a) (h : ∀ i, 220 ≤ i → i < 292 → t i = s i) (hr : RSw 0 C s) : RSw 0 C' t := ⟨fun w hw => by rw [hc _ (by omega) (by omega)]; exact hr.1 w hw, fun w hw => by
  have hw : w < nW s := by unfold nW at *; rw [← h1]; exact hw
  have eV : nV t w = nV s w := by unfold nV; rw [h _ (by omega) (by omega)]
  have := hV w hw
  rw [hc _ (by omega) (by omega), hc (0 + 49 + 2 * w) (by omega) (by omega), h _ (by omega) (by omega), eV]
  exact ⟨(hr.2 w hw).1, fun j hj => by rw [h _ (by omega) (by omega)]; exact (hr.2 w hw).2 j hj⟩⟩
theorem kt {C C' : Mm} {s t : Sx} (hX : ∀ u, u < 2 → nX s u ≤ 60) (hc : ∀ a, a = 38 ∨ a = 39 ∨ a = 43 ∨ a = 44 → C' a = C a) (h : ∀ i, 292 ≤ i → i < 542 → t i = s i) (hr : RSt 0 C s) : RSt 0 C' t := fun u hu => by
  have eX : nX t u = nX s u := by unfold nX; rw [h _ (by omega) (by omega)]
  have := hX u hu
  rw [hc _ (by omega), hc (0 + 39 + 5 * u) (by omega), h _ (by omega) (by omega), eX]
  exact ⟨(hr u hu).1, fun k hk => by rw [h _ (by omega) (by omega), h _ (by omega) (by omega)]; exact (hr u hu).2 k hk⟩
theorem ka {C C' : Mm} {s t : Sx} (h5 : t 5 = s 5) (hT : nT s ≤ 60) (hc : C' 64 = C 64) (hc2 : C' 65 = C 65) (h : ∀ i, 542 ≤ i → i < 602 → t i = s i) (hr : RSa 0 C s) : RSa 0 C' t := by
  have eT : nT t = nT s := by unfold nT; rw [h5]
  unfold RSa at *
  rw [show 0 + 64 = 64 from rfl, show 0 + 65 = 65 from rfl, hc, hc2, h5, eT]
  exact ⟨hr.1, fun j hj => by rw [h _ (by omega) (by omega)]; exact hr.2 j hj⟩
theorem kq {C C' : Mm} {s t : Sx} (h6 : t 6 = s 6) (hQ : nQ s ≤ 24) (hc : C' 66 = C 66) (hc2 : C' 67 = C 67) (h : ∀ i, 602 ≤ i → i < 626 → t i = s i) (hr : RSq 0 C s) : RSq 0 C' t := by
  have eQ : nQ t = nQ s := by unfold nQ; rw [h6]
  unfold RSq at *
  rw [show 0 + 66 = 66 from rfl, show 0 + 67 = 67 from rfl, hc, hc2, h6, eQ]
  exact ⟨hr.1, fun j hj => by rw [h _ (by omega) (by omega)]; exact hr.2 j hj⟩
/-- the tape becomes n bytes, which both hold -/
theorem r_tape {C C' D D' : Mm} {n : Nat} (h : Rel C D) (hn : n ≤ 60) (e5 : D' 1 5 = nI n) (eC : C' 64 1 = nI n) (hE : ∀ i, i < 626 → i ≠ 5 → ¬ (542 ≤ i ∧ i < 602) → D' 1 i = D 1 i) (hCC : ∀ k, k < 68 → k ≠ 64 → k ≠ 65 → k ≠ 40 → k ≠ 41 → k ≠ 45 → k ≠ 46 → C' k = C k) (hb : ∀ j, j < n → C' 65 j = D' 1 (542 + j) ∧ ∃ k, k ≤ 255 ∧ D' 1 (542 + j) = nI k) (hcf : CF C C') (hmf : MF D D') : Rel C' D' := by
  obtain ⟨a, b, c, d, e, f, g⟩ := id h.si
  obtain ⟨r1, r2, r3, r4, r5, r6, r7, r8, r9⟩ := id h.rs
  obtain ⟨z1, z2, z3, z4, z5, z6, z7⟩ := h.si.sz
  have eT : nT (D' 1) = n := by unfold nT; rw [e5, ix_nI (by omega)]
  have e0 := hE 0 (by omega) (by omega) (by omega)
  have e1 := hE 1 (by omega) (by omega) (by omega)
  have e6 := hE 6 (by omega) (by omega) (by omega)
  refine Rel_now h ⟨⟨by unfold nL at *; rw [e0]; exact a.1, by unfold nW at *; rw [e1]; exact a.2.1, by rw [eT, e5]; exact ⟨rfl, hn⟩, by unfold nQ at *; rw [e6]; exact a.2.2.2⟩, kB (hE 2 (by omega) (by omega) (by omega)) (hE 3 (by omega) (by omega) (by omega)) (fun i h1 h2 => hE i (by omega) (by omega) (by omega)) b, kC e0 z1 (fun i h1 h2 => hE i (by omega) (by omega) (by omega)) c, kD e0 z1 (fun i h1 h2 => hE i (by omega) (by omega) (by omega)) d, kE e1 z2 (fun i h1 h2 => hE i (by omega) (by omega) (by omega)) e, kF (fun i h1 h2 => hE i (by omega) (by omega) (by omega)) f, fun j hj => by rw [eT] at hj; exact (hb j hj).2⟩ ⟨?_, kk (hCC 1 (by omega) (by omega) (by omega) (by omega) (by omega) (by omega) (by omega)) (fun i h1 h2 => hE i (by omega) (by omega) (by omega)) r2, kh (hCC 2 (by omega) (by omega) (by omega) (by omega) (by omega) (by omega) (by omega)) (fun p hp => hE _ (by omega) (by omega) (by omega)) r3, kl e0 z1 (fun k h1 h2 => hCC k (by omega) (by omega) (by omega) (by omega) (by omega) (by omega) (by omega)) (fun i h1 h2 => hE i (by omega) (by omega) (by omega)) r4, kp z5 (fun k h1 h2 => hCC k (by omega) (by omega) (by omega) (by omega) (by omega) (by omega) (by omega)) (fun p j h1 h2 h3 => hE _ (by omega) (by omega) (by omega)) r5, kw e1 z2 z6 (fun k h1 h2 => hCC k (by omega) (by omega) (by omega) (by omega) (by omega) (by omega) (by omega)) (fun i h1 h2 => hE i (by omega) (by omega) (by omega)) r6, kt z7 (fun k h1 => hCC k (by omega) (by omega) (by omega) (by omega) (by omega) (by omega) (by omega)) (fun i h1 h2 => hE i (by omega) (by omega) (by omega)) r7, ⟨by rw [show 0 + 64 = 64 from rfl, eC, e5], fun j hj => by rw [eT] at hj; exact (hb j hj).1⟩, kq e6 z4 (hCC 66 (by omega) (by omega) (by omega) (by omega) (by omega) (by omega) (by omega)) (hCC 67 (by omega) (by omega) (by omega) (by omega) (by omega) (by omega) (by omega)) (fun i h1 h2 => hE i (by omega) (by omega) (by omega)) r9⟩ hcf hmf
  unfold RSc at *
  rw [hCC 0 (by omega) (by omega) (by omega) (by omega) (by omega) (by omega) (by omega), hE 2 (by omega) (by omega) (by omega), hE 3 (by omega) (by omega) (by omega), hE 4 (by omega) (by omega) (by omega), hE 7 (by omega) (by omega) (by omega), e0, e1]
  exact r1
