/-! PURE 39: text, signs of the levels. -/
def jC (i v5 : Nat) (b : Int32) : Bool := if i = 2 then (decide (v5 = 0) && jnS 2 b) else jnS i b
theorem wi_cmp {k : Nat} (hk : k ≤ 255) : wi (nI k) 60 62 = jnS 2 (nI k) := by
  have : ∀ k : Fin 256, wi (nI k.val) 60 62 = jnS 2 (nI k.val) := by decide +kernel
  exact this ⟨k, by omega⟩
theorem jn_0 (i : Nat) : jnS i 0 = false := by
  unfold jnS
  by_cases h0 : i = 0
  · rw [if_pos h0]; decide
  rw [if_neg h0]
  by_cases h1 : i = 1
  · rw [if_pos h1]; decide
  rw [if_neg h1]
  by_cases h2 : i = 2
  · rw [if_pos h2]; decide
  rw [if_neg h2]
  by_cases h3 : i = 3
  · rw [if_pos h3]; decide
  rw [if_neg h3]; decide
theorem e_joinL {u T : Nat} {C D : Mm} {q n o : Nat} (h : PR u T C D q n o) {i v5 : Nat} (hi : i < 5) (hv : v5 < 2 ^ 31) : fX2_isJoining (nI i) (nI v5) C = some (jC i v5 (if q < T then D 1 (542 + q) else 0), C) := by
  have hb : ∃ k, k ≤ 255 ∧ (if q < T then D 1 (542 + q) else 0) = nI k := by
    by_cases hq : q < T
    · rw [if_pos hq]; exact (h.1.2.2.2 q hq).2
    · rw [if_neg hq]; exact ⟨0, by omega, rfl⟩
  obtain ⟨k, hk, ek⟩ := hb
  unfold fX2_isJoining fX2_isJoining_B55 fX2_isJoining_B67 fX2_isJoining_B87 fX2_isJoining_B88 fX2_isJoining_B101 fX2_isJoining_B106 fX2_isJoining_B125 fX2_isJoining_B130 jC
  rw [h.at, bd_s, ek, e_isWithin, bd_s, wi_cmp hk]
  generalize hbb : nI k = b
  rcases (show i = 0 ∨ i = 1 ∨ i = 2 ∨ i = 3 ∨ i = 4 by omega) with rfl | rfl | rfl | rfl | rfl
  · rw [if_pos (show nI 0 = (0 : Int32) from rfl)]
    show _ = some (decide (b = 124), C)
    by_cases e : b = 124
    · rw [if_pos e, decide_eq_true e]; rfl
    · rw [if_neg e, decide_eq_false e]; rfl
  · rw [if_neg (show ¬ nI 1 = (0 : Int32) by decide), if_pos (show nI 1 = (1 : Int32) from rfl)]
    show _ = some (decide (b = 38), C)
    by_cases e : b = 38
    · rw [if_pos e, decide_eq_true e]; rfl
    · rw [if_neg e, decide_eq_false e]; rfl
  · rw [if_neg (show ¬ nI 2 = (0 : Int32) by decide), if_neg (show ¬ nI 2 = (1 : Int32) by decide), if_pos (show nI 2 = (2 : Int32) from rfl), if_pos (show (2 : Nat) = 2 from rfl)]
    generalize jnS 2 b = X
    by_cases e : v5 = 0
    · rw [if_pos (show nI v5 = 0 by rw [e]; rfl), decide_eq_true e, Bool.true_and]
      cases X <;> rfl
    · rw [if_neg (show ¬ nI v5 = 0 by rw [show (0 : Int32) = nI 0 from rfl, eq_nI hv (by omega)]; exact e), decide_eq_false e]; rfl
  · rw [if_neg (show ¬ nI 3 = (0 : Int32) by decide), if_neg (show ¬ nI 3 = (1 : Int32) by decide), if_neg (show ¬ nI 3 = (2 : Int32) by decide), if_pos (show nI 3 = (3 : Int32) from rfl)]
    show _ = some (decide (b = 43) || decide (b = 45), C)
    by_cases e : b = 43
    · rw [if_pos e, decide_eq_true e]; rfl
    · rw [if_neg e, decide_eq_false e]
      by_cases e2 : b = 45
      · rw [if_pos e2, decide_eq_true e2]; rfl
      · rw [if_neg e2, decide_eq_false e2]; rfl
  · rw [if_neg (show ¬ nI 4 = (0 : Int32) by decide), if_neg (show ¬ nI 4 = (1 : Int32) by decide), if_neg (show ¬ nI 4 = (2 : Int32) by decide), if_neg (show ¬ nI 4 = (3 : Int32) by decide)]
    show _ = some (decide (b = 42) || decide (b = 47) || decide (b = 37), C)
    by_cases e : b = 42
    · rw [if_pos e, decide_eq_true e]; rfl
    · rw [if_neg e, decide_eq_false e]
      by_cases e2 : b = 47
      · rw [if_pos e2, decide_eq_true e2]; rfl
      · rw [if_neg e2, decide_eq_false e2]
        by_cases e3 : b = 37
        · rw [if_pos e3, decide_eq_true e3]; rfl
        · rw [if_neg e3, decide_eq_false e3]; rfl
/-- a sign of a level is a sign -/
theorem jn_sg {i : Nat} {b : Int32} (h : jnS i b = true) : isSg b := by
  unfold jnS at h
  unfold isSg
  by_cases h0 : i = 0
  · rw [if_pos h0] at h; exact Or.inl (of_decide_eq_true h)
  rw [if_neg h0] at h
  by_cases h1 : i = 1
  · rw [if_pos h1] at h; exact Or.inr (Or.inl (of_decide_eq_true h))
  rw [if_neg h1] at h
  by_cases h2 : i = 2
  · rw [if_pos h2] at h
    simp only [Bool.or_eq_true, decide_eq_true_eq] at h
    rcases h with (h | h) | h
    · exact Or.inr (Or.inr (Or.inl h))
    · exact Or.inr (Or.inr (Or.inr (Or.inl h)))
    · exact Or.inr (Or.inr (Or.inr (Or.inr (Or.inl h))))
  rw [if_neg h2] at h
  by_cases h3 : i = 3
  · rw [if_pos h3] at h
    simp only [Bool.or_eq_true, decide_eq_true_eq] at h
    rcases h with h | h
    · exact Or.inr (Or.inr (Or.inr (Or.inr (Or.inr (Or.inl h)))))
    · exact Or.inr (Or.inr (Or.inr (Or.inr (Or.inr (Or.inr (Or.inl h))))))
  · rw [if_neg h3] at h
    simp only [Bool.or_eq_true, decide_eq_true_eq] at h
    rcases h with (h | h) | h
    · exact Or.inr (Or.inr (Or.inr (Or.inr (Or.inr (Or.inr (Or.inr (Or.inl h)))))))
    · exact Or.inr (Or.inr (Or.inr (Or.inr (Or.inr (Or.inr (Or.inr (Or.inr (Or.inl h))))))))
    · exact Or.inr (Or.inr (Or.inr (Or.inr (Or.inr (Or.inr (Or.inr (Or.inr (Or.inr h))))))))
