/-! PURE 38: text, numbers and signs. -/
theorem wi_dg {k : Nat} (hk : k ≤ 255) : wi (nI k) 48 57 = decide (48 ≤ k ∧ k ≤ 57) := by
  unfold wi
  rw [show (48 : Int32) = nI 48 from rfl, show (57 : Int32) = nI 57 from rfl]
  rw [show decide (nI 48 ≤ nI k) = decide (48 ≤ k) from decide_eq_decide.mpr (nI_leI (by omega) (by omega)), show decide (nI k ≤ nI 57) = decide (k ≤ 57) from decide_eq_decide.mpr (nI_leI (by omega) (by omega))]
  by_cases h1 : 48 ≤ k <;> by_cases h2 : k ≤ 57 <;> simp [h1, h2]
def dgt (T q : Nat) (D : Mm) : Prop := q < T ∧ ∃ k, 48 ≤ k ∧ k ≤ 57 ∧ D 1 (542 + q) = nI k
theorem num_loop {u T n o : Nat} {z1 z2 z3 z4 z5 z6 : Mm → Option (Bool × Mm)} : ∀ (m f1 f2 i x : Nat) (C D : Mm) (q : Nat), m < f1 → m < f2 → i + m = 4 → x < 10 ^ i → PR u T C D q n o → (n < q ∨ (0 < m ∧ dgt T q D)) → ∃ C' D' q', (0 < m → dgt T q D → q < q') ∧ fX2_readNumber_L4 f1 (nI i) (nI x) C = some ((), C') ∧ fX10_one_L46 z1 z2 z3 z4 z5 z6 f2 (nI i) (nI x) D = some (true, D') ∧ PR u T C' D' q' (n + 1) o ∧ q ≤ q' ∧ n < q' ∧ FP C C' ∧ FQ D D' ∧ (∀ j, j < 2 * n → D' 5 j = D 5 j) ∧ D' 5 (2 * n) = 0 := by
  have fin : ∀ (x : Nat) (C D : Mm) (q : Nat), x < 10000 → PR u T C D q n o → n < q → ∃ C' D' q', fX2_readNumber_B62 (nI x) C = some ((), C') ∧ fX10_one_B94 z1 z2 z3 z4 z5 z6 (nI x) D = some (true, D') ∧ PR u T C' D' q' (n + 1) o ∧ q ≤ q' ∧ n < q' ∧ FP C C' ∧ FQ D D' ∧ (∀ j, j < 2 * n → D' 5 j = D 5 j) ∧ D' 5 (2 * n) = 0 := fun x C D q hx h hn => by
    obtain ⟨C1, D1, e1, e2, e3, e4, e5, e6, e7⟩ := h.lay hn (c := nI x) (w := 0) (v := nI x) (Or.inl ⟨rfl, rfl, nI_pos' (by omega)⟩) (Or.inl rfl)
    unfold fX2_readNumber_B62 fX10_one_B94
    rw [e1, bd_s, e2, bd_s]
    exact ⟨C1, D1, q, rfl, rfl, e3, Nat.le_refl q, hn, e4, e5, e6, e7⟩
  intro m
  induction m with
  | zero =>
    intro f1 f2 i x C D q h1 h2 hi hx h hq
    obtain ⟨g1, rfl⟩ : ∃ g, f1 = g + 1 := ⟨f1 - 1, by omega⟩
    obtain ⟨g2, rfl⟩ : ∃ g, f2 = g + 1 := ⟨f2 - 1, by omega⟩
    have ei : i = 4 := by omega
    subst ei
    unfold fX2_readNumber_L4 fX10_one_L46 fX2_readNumber_L4b fX10_one_L46b
    rw [if_pos (by decide), if_pos (by decide)]
    obtain ⟨C', D', q', t⟩ := fin x C D q (by omega) h (by omega)
    exact ⟨C', D', q', fun z => by omega, t⟩
  | succ m ih =>
    intro f1 f2 i x C D q h1 h2 hi hx h hq
    obtain ⟨g1, rfl⟩ : ∃ g, f1 = g + 1 := ⟨f1 - 1, by omega⟩
    obtain ⟨g2, rfl⟩ : ∃ g, f2 = g + 1 := ⟨f2 - 1, by omega⟩
    have hx4 : x < 1000 := by
      rcases (show i = 0 ∨ i = 1 ∨ i = 2 ∨ i = 3 by omega) with rfl | rfl | rfl | rfl <;> omega
    have hx10 : 10 ^ i * 10 = 10 ^ (i + 1) := (Nat.pow_succ 10 i).symm
    unfold fX2_readNumber_L4 fX10_one_L46 fX2_readNumber_L4b fX10_one_L46b fX2_isDigit
    rw [if_neg (show ¬ (4 : Int32) ≤ nI i from nI_ge (b := 4) (by omega) (by omega)), if_neg (show ¬ (4 : Int32) ≤ nI i from nI_ge (b := 4) (by omega) (by omega)), h.at, bd_s, e_isWithin, bd_s, bd_s, h.look, bd_s, e_in, bd_s, h.at, bd_s, h.look, bd_s]
    by_cases hqT : q < T
    · obtain ⟨k, hk, ek⟩ := (h.1.2.2.2 q hqT).2
      rw [if_pos hqT, if_pos hqT, ek, wi_dg hk]
      by_cases hd : 48 ≤ k ∧ k ≤ 57
      · rw [decide_eq_true hd, if_pos rfl, if_pos rfl, lt_e, lt_e, lt_e, lt_e, show nI i + 1 = nI (i + 1) from nI_1 i]
        have ex1 : (nI x * 10 + nI k) - 48 = nI (x * 10 + k - 48) := by
          rw [show (10 : Int32) = nI 10 from rfl, pk_mul, nI_add, show (48 : Int32) = nI 48 from rfl, pk_sub (by omega)]
        have ex2 : ((10 : Int32) * nI x + nI k) - 48 = nI (x * 10 + k - 48) := by
          rw [show (10 : Int32) = nI 10 from rfl, pk_mul, nI_add, show (48 : Int32) = nI 48 from rfl, pk_sub (by omega), Nat.mul_comm]
        rw [ex1, ex2]
        obtain ⟨a1, a2, a3⟩ := h.adv hqT
        obtain ⟨C', D', q', s0, s1, s2, s3, s4, s5, s6, s7, s8, s9⟩ := ih g1 g2 (i + 1) (x * 10 + k - 48) _ _ (q + 1) (by omega) (by omega) (by omega) (by omega) a1 (Or.inl (by have := h.2.2.1.2.2; omega))
        exact ⟨C', D', q', fun _ _ => by omega, s1, s2, s3, by omega, s5, a2.tr s6, a3.tr s7, fun j hj => by rw [s8 j hj, wr_c (by decide)], s9⟩
      · rw [decide_eq_false hd, if_neg (by decide), if_neg (by decide)]
        have hnd : ¬ dgt T q D := by
          rintro ⟨-, k', h3, h4, h5⟩
          rw [ek, eq_nI (by omega) (by omega)] at h5; omega
        obtain ⟨C', D', q', t⟩ := fin x C D q (by omega) h (by
          rcases hq with hq | ⟨-, z⟩
          · exact hq
          · exact absurd z hnd)
        exact ⟨C', D', q', fun _ z => absurd z hnd, t⟩
    · rw [if_neg hqT, if_neg hqT, show wi 0 48 57 = false by decide, show wi (-1) 48 57 = false by decide, if_neg (by decide), if_neg (by decide)]
      obtain ⟨C', D', q', t⟩ := fin x C D q (by omega) h (by
        rcases hq with hq | ⟨-, hd, -⟩
        · exact hq
        · omega)
      exact ⟨C', D', q', fun _ z => absurd z.1 hqT, t⟩
