/-! PURE 43: text, parts. -/
theorem wr_cm {M : Mm} {a b i j : Nat} {x y : Int32} (h : a ≠ b) : wr (wr M a i x) b j y = wr (wr M b j y) a i x := by
  funext c d
  simp only [wr_at]
  by_cases h1 : c = b ∧ d = j
  · rw [if_pos h1, if_neg (by omega), if_pos h1]
  · rw [if_neg h1, if_neg h1]
/-- the depth of opened parts changes -/
theorem PR.op {u T : Nat} {C D : Mm} {q n o : Nat} (h : PR u T C D q n o) {o2 : Nat} (ho : o2 ≤ 5) : PR u T C (wr D 0 6 (nI o2)) q n o2 ∧ FQ D (wr D 0 6 (nI o2)) := by
  obtain ⟨a, b, c, d, e, f⟩ := h
  have f2 : FQ D (wr D 0 6 (nI o2)) := ⟨fun x x1 _ => wr_c x1, fun j _ j2 _ => wr_j j2⟩
  refine ⟨⟨a.fr (FP.rf C) f2, ⟨b.1, by rw [wr_j (by decide)]; exact b.2.1, b.2.2⟩, ⟨c.1, by rw [wr_j (by decide)]; exact c.2.1, c.2.2⟩, ⟨wr_s, ho⟩, ⟨by rw [wr_j (by decide)]; exact e.1, e.2⟩, fun k hk => ?_⟩, f2⟩
  have ed : dF (wr D 0 6 (nI o2)) k = dF D k := dF_cg (n := n) (fun k _ => by rw [wr_c (by decide)]) k (by omega)
  rw [ed, wr_c (show (5 : Nat) ≠ 0 by decide)]; exact f k hk
