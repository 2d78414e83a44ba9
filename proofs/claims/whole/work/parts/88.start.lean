/-! THE START: class and reference, new, stand beside each other. -/
theorem st_s {j : Nat} (h : j < 180) (h2 : j ≠ 2) (h7 : j ≠ 7) (h8 : ¬ (8 ≤ j ∧ j < 12)) : MD0 1 j = 0 := by
  show (if 8 ≤ j ∧ j < 12 then 5 else if j = 2 then 1000 else if j = 7 then 1 else 0) = _
  rw [if_neg h8, if_neg h2, if_neg h7]
theorem st_0 {j : Nat} (h : 12 ≤ j) : MD0 1 j = 0 := by
  show (if 8 ≤ j ∧ j < 12 then 5 else if j = 2 then 1000 else if j = 7 then 1 else 0) = _
  rw [if_neg (by omega), if_neg (by omega), if_neg (by omega)]
theorem st_nL : nL (MD0 1) = 0 := by decide
theorem st_nW : nW (MD0 1) = 0 := by decide
theorem st_nT : nT (MD0 1) = 0 := by decide
theorem st_nQ : nQ (MD0 1) = 0 := by decide
theorem st_nP {p : Nat} : nP (MD0 1) p = 0 := by unfold nP; rw [st_0 (by omega)]; decide
theorem st_nX {u : Nat} : nX (MD0 1) u = 0 := by unfold nX; rw [st_0 (by omega)]; decide
theorem st_SI : SI (MD0 1) := by
  have hT : ∀ u, TOK (MD0 1) u := fun u => ⟨by rw [st_nX, st_0 (by omega)]; rfl, by rw [st_nX]; omega, fun k hk => by rw [st_nX] at hk; omega⟩
  refine ⟨⟨⟨by rw [st_nL]; decide, by rw [st_nL]; omega⟩, ⟨by rw [st_nW]; decide, by rw [st_nW]; omega⟩, ⟨by rw [st_nT]; decide, by rw [st_nT]; omega⟩, ⟨by rw [st_nQ]; decide, by rw [st_nQ]; omega⟩⟩, ⟨by decide, by decide, ?_⟩, fun l hl => by rw [st_nL] at hl; omega, ⟨fun p hp => ?_, fun l p hl _ _ => by rw [st_nL] at hl; omega⟩, fun w hw => by rw [st_nW] at hw; omega, ⟨hT 0, hT 1⟩, fun j hj => by rw [st_nT] at hj; omega⟩
  · decide
  · exact ⟨by rw [st_nP, st_0 (by omega)]; rfl, by rw [st_nP]; omega, fun j hj => by rw [st_nP] at hj; omega, fun i j hi _ _ => by rw [st_nP] at hi; omega⟩
theorem st_RS : RS 0 MC0 (MD0 1) := by
  refine ⟨⟨by decide, by decide, by decide, by decide, by decide, by decide⟩, by unfold RSk; decide, by unfold RSh; decide, fun i f hi _ => by rw [st_nL] at hi; omega, fun p hp => ⟨?_, fun j hj => by rw [st_nP] at hj; omega⟩, ⟨fun w hw => ⟨0, by omega, ?_⟩, fun w hw => by rw [st_nW] at hw; omega⟩, fun u hu => ⟨?_, fun k hk => by rw [st_nX] at hk; omega⟩, ⟨by decide, fun j hj => by rw [st_nT] at hj; omega⟩, ⟨by decide, fun j hj => by rw [st_nQ] at hj; omega⟩⟩
  · rw [st_0 (by omega)]
    have : ∀ p, p < 4 → MC0 (0 + 29 + 2 * p) 1 = 0 := by decide
    exact this p hp
  · have : ∀ w, w < 8 → MC0 (0 + 48 + 2 * w) 1 = nI 0 := by decide
    exact this w hw
  · rw [st_0 (by omega)]
    have : ∀ u, u < 2 → MC0 (0 + 38 + 5 * u) 1 = 0 := by decide
    exact this u hu
theorem st_Rel : Rel MC0 MD0 := by
  refine ⟨st_SI, st_RS, ⟨by decide, fun h => absurd (by decide) h⟩, fun k h1 h6 => ?_, ⟨⟨0, by omega, by decide⟩, by decide, fun j hj => ?_⟩, fun i hi => ?_⟩
  · have : ∀ k, k < 7 → MC0 172 k = MD0 4 k := by decide
    exact this k (by omega)
  · have : ix (MD0 0 19) = 0 := by decide
    omega
  · have e1 : ∀ i, i < 4 → MC0 (160 + 3 * i) 1 = MD0 13 i ∧ MD0 13 i = 0 ∧ MC0 (161 + 3 * i) 1 = MD0 14 i ∧ MD0 14 i = nI 0 := by decide
    obtain ⟨a, b, c, d⟩ := e1 i hi
    refine ⟨a, Or.inl b, c, ⟨0, by omega, d⟩, fun j hj => ?_⟩
    rw [d, ix_nI (by omega)] at hj
    omega
