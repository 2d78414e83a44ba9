/-! PURE 37: text, names, signs, numbers. -/
theorem idx0 (x : Int32) (M : Mm) : fJ1_indexOfChar_4cfef_L7 x 0 4 FU 0 M = if 105 = x then some (0, M) else if 99 = x then some (1, M) else if 97 = x then some (2, M) else if 109 = x then some (3, M) else some (-1, M) := rfl
theorem idx1 (x : Int32) (M : Mm) : fJ1_indexOfChar_4cfef_L7 x 1 3 FU 0 M = if 114 = x then some (0, M) else if 115 = x then some (1, M) else if 103 = x then some (2, M) else some (-1, M) := rfl
theorem chr_all : ∀ k : Fin 256, ((nI k.val).toUInt32 % 65536).toInt32 = nI k.val ∧ ¬ nI k.val < 0 ∧ ¬ (255 : Int32) < nI k.val := by decide +kernel
theorem chr_eq : ∀ k : Fin 256, (((105 : Int32) = (nI k.val).toInt8.toInt32) ↔ 105 = k.val) ∧ (((99 : Int32) = (nI k.val).toInt8.toInt32) ↔ 99 = k.val) ∧ (((97 : Int32) = (nI k.val).toInt8.toInt32) ↔ 97 = k.val) ∧ (((109 : Int32) = (nI k.val).toInt8.toInt32) ↔ 109 = k.val) ∧ (((114 : Int32) = (nI k.val).toInt8.toInt32) ↔ 114 = k.val) ∧ (((115 : Int32) = (nI k.val).toInt8.toInt32) ↔ 115 = k.val) ∧ (((103 : Int32) = (nI k.val).toInt8.toInt32) ↔ 103 = k.val) := by decide +kernel
def nmI (u k : Nat) : Int32 := if u = 0 then (if k = 105 then 0 else if k = 99 then 1 else if k = 97 then 2 else if k = 109 then 3 else -1) else (if k = 114 then 0 else if k = 115 then 1 else if k = 103 then 2 else -1)
theorem e_idx {u k : Nat} (hu : u < 2) (hk : k ≤ 255) (M : Mm) : fJ0_indexOf_0f7a4 u (((nI k).toUInt32 % 65536).toInt32) M = some (nmI u k, M) := by
  obtain ⟨c1, c2, c3⟩ := chr_all ⟨k, by omega⟩
  obtain ⟨e1, e2, e3, e4, e5, e6, e7⟩ := chr_eq ⟨k, by omega⟩
  dsimp only at c1 c2 c3 e1 e2 e3 e4 e5 e6 e7
  rw [c1]
  have h1 : fJ1_canEncode_9a6ad (nI k) M = some (true, M) := by
    unfold fJ1_canEncode_9a6ad fJ1_canEncode_9a6ad_B16
    rw [if_neg c2, if_neg c3]; rfl
  unfold fJ0_indexOf_0f7a4 fJ0_indexOf_7cf53 fJ1_indexOf_4cfef fJ0_indexOf_7cf53_B36
  rcases (show u = 0 ∨ u = 1 by omega) with rfl | rfl
  · have h2 : fJ1_indexOfChar_4cfef 0 (nI k) 0 4 M = some (nmI 0 k, M) := by
      show fJ1_indexOfChar_4cfef_L7 (nI k).toInt8.toInt32 0 4 FU 0 M = _
      rw [idx0]
      unfold nmI
      rw [if_pos rfl]
      by_cases q1 : k = 105
      · rw [if_pos (e1.mpr q1.symm), if_pos q1]
      rw [if_neg (fun z => q1 (e1.mp z).symm), if_neg q1]
      by_cases q2 : k = 99
      · rw [if_pos (e2.mpr q2.symm), if_pos q2]
      rw [if_neg (fun z => q2 (e2.mp z).symm), if_neg q2]
      by_cases q3 : k = 97
      · rw [if_pos (e3.mpr q3.symm), if_pos q3]
      rw [if_neg (fun z => q3 (e3.mp z).symm), if_neg q3]
      by_cases q4 : k = 109
      · rw [if_pos (e4.mpr q4.symm), if_pos q4]
      rw [if_neg (fun z => q4 (e4.mp z).symm), if_neg q4]
    rw [show fJ0_isLatin1_aae02 0 M = some (true, M) from rfl, bd_s, if_pos rfl, show fJ0_length_8abf5 0 M = some (4, M) from rfl, bd_s, h1, bd_s, if_pos rfl]
    show bd (bd (bd (fJ1_indexOfChar_4cfef 0 (nI k) 0 4 M) _) _) _ = _
    rw [h2]; rfl
  · have h2 : fJ1_indexOfChar_4cfef 1 (nI k) 0 3 M = some (nmI 1 k, M) := by
      show fJ1_indexOfChar_4cfef_L7 (nI k).toInt8.toInt32 1 3 FU 0 M = _
      rw [idx1]
      unfold nmI
      rw [if_neg (show ¬ (1 : Nat) = 0 by decide)]
      by_cases q1 : k = 114
      · rw [if_pos (e5.mpr q1.symm), if_pos q1]
      rw [if_neg (fun z => q1 (e5.mp z).symm), if_neg q1]
      by_cases q2 : k = 115
      · rw [if_pos (e6.mpr q2.symm), if_pos q2]
      rw [if_neg (fun z => q2 (e6.mp z).symm), if_neg q2]
      by_cases q3 : k = 103
      · rw [if_pos (e7.mpr q3.symm), if_pos q3]
      rw [if_neg (fun z => q3 (e7.mp z).symm), if_neg q3]
    rw [show fJ0_isLatin1_aae02 1 M = some (true, M) from rfl, bd_s, if_pos rfl, show fJ0_length_8abf5 1 M = some (3, M) from rfl, bd_s, h1, bd_s, if_pos rfl]
    show bd (bd (bd (fJ1_indexOfChar_4cfef 1 (nI k) 0 3 M) _) _) _ = _
    rw [h2]; rfl
def isNmB (u : Nat) (b : Int32) : Bool := if u = 0 then (decide (b = 105) || decide (b = 99) || decide (b = 97) || decide (b = 109)) else (decide (b = 114) || decide (b = 115) || decide (b = 103))
theorem e_isName {u : Nat} {D : Mm} (hu : u < 2) (h8 : D 0 8 = nI u) (b : Int32) : fX10_isName b D = some (isNmB u b, D) := by
  unfold fX10_isName fX10_isName_B31 fX10_isName_B57 fX10_isName_B62 isNmB
  rw [h8]
  rcases (show u = 0 ∨ u = 1 by omega) with rfl | rfl
  · rw [if_pos (by decide), if_pos rfl]
    by_cases q1 : b = 105
    · subst q1; rfl
    by_cases q2 : b = 99
    · subst q2; rfl
    by_cases q3 : b = 97
    · subst q3; rfl
    by_cases q4 : b = 109
    · subst q4; rfl
    rw [if_neg q1, if_neg q2, if_neg q3, if_neg q4, decide_eq_false q1, decide_eq_false q2, decide_eq_false q3, decide_eq_false q4]
    rfl
  · rw [if_neg (show ¬ nI 1 = (0 : Int32) by decide), if_neg (show ¬ (1 : Nat) = 0 by decide)]
    by_cases q1 : b = 114
    · subst q1; rfl
    by_cases q2 : b = 115
    · subst q2; rfl
    by_cases q3 : b = 103
    · subst q3; rfl
    rw [if_neg q1, if_neg q2, if_neg q3, decide_eq_false q1, decide_eq_false q2, decide_eq_false q3]
    rfl
/-- a byte's place among the names, and that it is one -/
theorem nm_two {u k : Nat} (hu : u < 2) (hk : k ≤ 255) : (isNmB u (nI k) = true ∧ ∃ i, i < nmN u ∧ nmI u k = nI i ∧ nI k = nmch u i ∧ isNm u (nI k)) ∨ (isNmB u (nI k) = false ∧ nmI u k = -1) := by
  have ne : ∀ c : Nat, c ≤ 255 → k ≠ c → ¬ nI k = nI c := fun c hc h e => by rw [eq_nI (by omega) (by omega)] at e; exact h e
  rcases (show u = 0 ∨ u = 1 by omega) with rfl | rfl
  · by_cases q1 : k = 105
    · subst q1; exact Or.inl ⟨rfl, 0, by decide, rfl, rfl, Or.inl ⟨rfl, Or.inl rfl⟩⟩
    by_cases q2 : k = 99
    · subst q2; exact Or.inl ⟨rfl, 1, by decide, rfl, rfl, Or.inl ⟨rfl, Or.inr (Or.inl rfl)⟩⟩
    by_cases q3 : k = 97
    · subst q3; exact Or.inl ⟨rfl, 2, by decide, rfl, rfl, Or.inl ⟨rfl, Or.inr (Or.inr (Or.inl rfl))⟩⟩
    by_cases q4 : k = 109
    · subst q4; exact Or.inl ⟨rfl, 3, by decide, rfl, rfl, Or.inl ⟨rfl, Or.inr (Or.inr (Or.inr rfl))⟩⟩
    refine Or.inr ⟨?_, ?_⟩
    · unfold isNmB
      rw [if_pos rfl, decide_eq_false (show ¬ nI k = (105 : Int32) from ne 105 (by omega) q1), decide_eq_false (show ¬ nI k = (99 : Int32) from ne 99 (by omega) q2), decide_eq_false (show ¬ nI k = (97 : Int32) from ne 97 (by omega) q3), decide_eq_false (show ¬ nI k = (109 : Int32) from ne 109 (by omega) q4)]; rfl
    · unfold nmI
      rw [if_pos rfl, if_neg q1, if_neg q2, if_neg q3, if_neg q4]
  · by_cases q1 : k = 114
    · subst q1; exact Or.inl ⟨rfl, 0, by decide, rfl, rfl, Or.inr ⟨rfl, Or.inl rfl⟩⟩
    by_cases q2 : k = 115
    · subst q2; exact Or.inl ⟨rfl, 1, by decide, rfl, rfl, Or.inr ⟨rfl, Or.inr (Or.inl rfl)⟩⟩
    by_cases q3 : k = 103
    · subst q3; exact Or.inl ⟨rfl, 2, by decide, rfl, rfl, Or.inr ⟨rfl, Or.inr (Or.inr rfl)⟩⟩
    refine Or.inr ⟨?_, ?_⟩
    · unfold isNmB
      rw [if_neg (show ¬ (1 : Nat) = 0 by decide), decide_eq_false (show ¬ nI k = (114 : Int32) from ne 114 (by omega) q1), decide_eq_false (show ¬ nI k = (115 : Int32) from ne 115 (by omega) q2), decide_eq_false (show ¬ nI k = (103 : Int32) from ne 103 (by omega) q3)]; rfl
    · unfold nmI
      rw [if_neg (show ¬ (1 : Nat) = 0 by decide), if_neg q1, if_neg q2, if_neg q3]
