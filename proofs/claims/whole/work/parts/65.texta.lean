/-! PURE 36: text, what both readers hold. -/
def dF (D : Mm) : Nat → Nat
  | 0 => 0
  | k + 1 => if D 5 (2 * k) = 0 ∨ D 5 (2 * k) = 1 then dF D k + 1 else if D 5 (2 * k) = 2 then dF D k else dF D k - 1
theorem dF_cg {D D' : Mm} {n : Nat} (h : ∀ k, k < n → D' 5 (2 * k) = D 5 (2 * k)) : ∀ k, k ≤ n → dF D' k = dF D k
  | 0, _ => rfl
  | k + 1, hk => by
    have ih := dF_cg h k (by omega)
    simp only [dF, ih, h k (by omega)]
/-- the tape, as both hold it -/
def TQ (T : Nat) (C D : Mm) : Prop := C 64 1 = nI T ∧ T ≤ 60 ∧ D 1 5 = nI T ∧ ∀ j, j < T → C 65 j = D 1 (542 + j) ∧ ∃ k, k ≤ 255 ∧ D 1 (542 + j) = nI k
def PR (u T : Nat) (C D : Mm) (q n o : Nat) : Prop := TQ T C D ∧ (C 153 2 = nI q ∧ D 0 5 = nI q ∧ q ≤ T) ∧ (C 154 1 = nI n ∧ D 0 7 = nI n ∧ n ≤ q) ∧ (D 0 6 = nI o ∧ o ≤ 5) ∧ (D 0 8 = nI u ∧ u < 2) ∧ ∀ k, k < n → SR u (C 155 k) (D 5 (2 * k)) (D 5 (2 * k + 1)) ∧ SOK u (D 5 (2 * k)) (D 5 (2 * k + 1)) (dF D k)
/-- behind a fault: only the places -/
def PF (T : Nat) (C D : Mm) : Prop := TQ T C D ∧ (∃ q, q ≤ T ∧ C 153 2 = nI q ∧ D 0 5 = nI q) ∧ ∃ m, m ≤ 60 ∧ C 154 1 = nI m
def FP (C C' : Mm) : Prop := ∀ a, a ≠ 153 → a ≠ 154 → a ≠ 155 → C' a = C a
def FQ (D D' : Mm) : Prop := (∀ a, a ≠ 0 → a ≠ 5 → D' a = D a) ∧ ∀ j, j ≠ 5 → j ≠ 6 → j ≠ 7 → D' 0 j = D 0 j
theorem FP.rf (C : Mm) : FP C C := fun _ _ _ _ => rfl
theorem FP.tr {A B C : Mm} (h : FP A B) (h2 : FP B C) : FP A C := fun a a1 a2 a3 => (h2 a a1 a2 a3).trans (h a a1 a2 a3)
theorem FQ.rf (D : Mm) : FQ D D := ⟨fun _ _ _ => rfl, fun _ _ _ _ => rfl⟩
theorem FQ.tr {A B C : Mm} (h : FQ A B) (h2 : FQ B C) : FQ A C := ⟨fun a a1 a2 => (h2.1 a a1 a2).trans (h.1 a a1 a2), fun j j1 j2 j3 => (h2.2 j j1 j2 j3).trans (h.2 j j1 j2 j3)⟩
theorem TQ.fr {T : Nat} {C C' D D' : Mm} (h : TQ T C D) (h1 : FP C C') (h2 : FQ D D') : TQ T C' D' := by
  unfold TQ at *
  rw [h1 64 (by decide) (by decide) (by decide), h1 65 (by decide) (by decide) (by decide), h2.1 1 (by decide) (by decide)]; exact h
theorem PR.pf {u T : Nat} {C D : Mm} {q n o : Nat} (h : PR u T C D q n o) : PF T C D := by
  obtain ⟨a, b, c, d, e, f⟩ := h
  have h60 := a.2.1
  exact ⟨a, ⟨q, b.2.2, b.1, b.2.1⟩, ⟨n, by omega, c.1⟩⟩
theorem c154 : isC layC 154 5 = true ∧ aN layC (154 + 1) = 60 ∧ isC layC 64 5 = true ∧ aN layC (64 + 1) = 60 := by decide
theorem PR.at {u T : Nat} {C D : Mm} {q n o : Nat} (h : PR u T C D q n o) : fX5_at 64 (C 153 2) C = some (if q < T then D 1 (542 + q) else 0, C) := by
  obtain ⟨a, b, c, d, e, f⟩ := h
  have h60 := a.2.1
  rw [b.1, e_at (n := T) c154.2.2.1 a.1 (by have := c154.2.2.2; omega) (by omega)]
  by_cases hq : q < T
  · rw [if_pos hq, if_pos hq, show 64 + 1 = 65 from rfl, (a.2.2.2 q hq).1]
  · rw [if_neg hq, if_neg hq]
theorem PR.look {u T : Nat} {C D : Mm} {q n o : Nat} (h : PR u T C D q n o) : fX10_look D = some (if q < T then D 1 (542 + q) else -1, D) := by
  obtain ⟨a, b, c, d, e, f⟩ := h
  have h60 := a.2.1
  unfold fX10_look fX10_look_B30
  rw [ix_lit5, a.2.2.1, b.2.1]
  by_cases hq : q < T
  · rw [if_neg (show ¬ nI T ≤ nI q from nI_ge (by omega) (by omega)), if_pos hq, show (542 : Int32) + nI q = nI (542 + q) by rw [← nI_add]; rfl, inb_nI (by omega) (by omega), gd_t, ix_nI (by omega)]
  · rw [if_pos (nI_le (by omega) (by omega)), if_neg hq]
theorem PR.adv {u T : Nat} {C D : Mm} {q n o : Nat} (h : PR u T C D q n o) (hq : q < T) : PR u T (wr C 153 2 (C 153 2 + 1)) (wr D 0 5 (D 0 5 + 1)) (q + 1) n o ∧ FP C (wr C 153 2 (C 153 2 + 1)) ∧ FQ D (wr D 0 5 (D 0 5 + 1)) := by
  obtain ⟨a, b, c, d, e, f⟩ := h
  have f1 : FP C (wr C 153 2 (C 153 2 + 1)) := fun x x1 _ _ => wr_c x1
  have f2 : FQ D (wr D 0 5 (D 0 5 + 1)) := ⟨fun x x1 _ => wr_c x1, fun j j1 _ _ => wr_j j1⟩
  refine ⟨⟨a.fr f1 f2, ⟨by rw [wr_s, b.1, nI_1], by rw [wr_s, b.2.1, nI_1], by omega⟩, ⟨by rw [wr_c (by decide)]; exact c.1, by rw [wr_j (by decide)]; exact c.2.1, by omega⟩, ⟨by rw [wr_j (by decide)]; exact d.1, d.2⟩, ⟨by rw [wr_j (by decide)]; exact e.1, e.2⟩, fun k hk => ?_⟩, f1, f2⟩
  have ed : dF (wr D 0 5 (D 0 5 + 1)) k = dF D k := dF_cg (n := n) (fun k _ => by rw [wr_c (by decide)]) k (by omega)
  rw [ed, wr_c (show (155 : Nat) ≠ 153 by decide), wr_c (show (5 : Nat) ≠ 0 by decide)]; exact f k hk
theorem PR.lay {u T : Nat} {C D : Mm} {q n o : Nat} (h : PR u T C D q n o) (hn : n < q) {c w v : Int32} (hsr : SR u c w v) (hso : SOK u w v (dF D n)) : ∃ C' D', fX5_add 154 c C = some (true, C') ∧ fX10_lays w v D = some ((), D') ∧ PR u T C' D' q (n + 1) o ∧ FP C C' ∧ FQ D D' ∧ (∀ j, j < 2 * n → D' 5 j = D 5 j) ∧ D' 5 (2 * n) = w := by
  obtain ⟨a, b, cc, d, e, f⟩ := h
  have h60 := a.2.1
  have hcap := c154.2.1
  have f1 : FP C (wr (wr C (154 + 1) n c) 154 1 (nI (n + 1))) := fun x _ x2 x3 => by rw [wr_c x2, wr_c x3]
  have f2 : FQ D (wr (wr (wr D 5 (2 * n) w) 5 (2 * n + 1) v) 0 7 (nI (n + 1))) := ⟨fun x x1 x2 => by rw [wr_c x1, wr_c x2, wr_c x2], fun j _ _ j3 => by rw [wr_j j3, wr_c (by decide), wr_c (by decide)]⟩
  have k5 : ∀ j, wr (wr (wr D 5 (2 * n) w) 5 (2 * n + 1) v) 0 7 (nI (n + 1)) 5 j = if j = 2 * n + 1 then v else if j = 2 * n then w else D 5 j := fun j => by
    rw [wr_c (by decide)]; simp only [wr_at, true_and]
  refine ⟨_, _, e_add c154.1 cc.1 (by omega) c, ?_, ⟨a.fr f1 f2, ⟨by rw [wr_c (by decide), wr_c (by decide)]; exact b.1, by rw [wr_j (by decide), wr_c (by decide), wr_c (by decide)]; exact b.2.1, b.2.2⟩, ⟨wr_s, wr_s, by omega⟩, ⟨by rw [wr_j (by decide), wr_c (by decide), wr_c (by decide)]; exact d.1, d.2⟩, ⟨by rw [wr_j (by decide), wr_c (by decide), wr_c (by decide)]; exact e.1, e.2⟩, fun k hk => ?_⟩, f1, f2, fun j hj => ?_, ?_⟩
  · unfold fX10_lays
    have x0 : (2 : Int32) * nI n = nI (2 * n) := by rw [← pk_mul]; rfl
    rw [cc.2.1, x0, inb_nI (by omega) (by omega), gd_t, ix_nI (by omega), lt_e, wr_c (show (0 : Nat) ≠ 5 by decide), cc.2.1, x0, nI_1, inb_nI (by omega) (by omega), gd_t, ix_nI (by omega), lt_e, wr_c (show (0 : Nat) ≠ 5 by decide), wr_c (show (0 : Nat) ≠ 5 by decide), cc.2.1, nI_1, lt_e]
  · have ed : dF (wr (wr (wr D 5 (2 * n) w) 5 (2 * n + 1) v) 0 7 (nI (n + 1))) k = dF D k := dF_cg (n := n) (fun k hk => by rw [k5, if_neg (by omega), if_neg (by omega)]) k (by omega)
    rw [ed, k5, k5, wr_c (by decide), show (155 : Nat) = 154 + 1 from rfl, wr_at]
    by_cases ek : k = n
    · subst ek
      rw [if_pos ⟨rfl, rfl⟩, if_neg (by omega), if_pos rfl, if_pos rfl]
      exact ⟨hsr, hso⟩
    · rw [if_neg (fun z => ek z.2), if_neg (by omega), if_neg (by omega), if_neg (by omega), if_neg (by omega)]
      exact f k (by omega)
  · rw [k5, if_neg (by omega), if_neg (by omega)]
  · rw [k5, if_neg (by omega), if_pos rfl]
/-- which sign of a level stands there -/
def jnS (i : Nat) (b : Int32) : Bool := if i = 0 then decide (b = 124) else if i = 1 then decide (b = 38) else if i = 2 then (decide (b = 60) || decide (b = 61) || decide (b = 62)) else if i = 3 then (decide (b = 43) || decide (b = 45)) else (decide (b = 42) || decide (b = 47) || decide (b = 37))
