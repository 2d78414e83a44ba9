/-! PURE 41: text, a level. -/
theorem lv_b {u T o i : Nat} (hi : i < 5) (hi2 : i ≠ 2) {z1 : Int32 → Nat → Int32 → Mm → Option (Bool × Mm)} {z2 : Nat → Int32 → Mm → Option (Bool × Mm)} {z3 : Int32 → Nat → Int32 → Mm → Option (Bool × Mm)} {zM : Mm → Option (Bool × Mm)} {mL : Nat → Mm → Option (Bool × Mm)}
    (hop : ∀ (C D : Mm) (q n : Nat), PR u T C D q n o → PT u T o (z1 (nI (i + 1)) u (nI o) C) (zM D) C D q n 1)
    (hmL : ∀ (f : Nat) (C D : Mm) (q n : Nat), PR u T C D q n o → mL (f + 1) D = if jnS i (if q < T then D 1 (542 + q) else 0) = true then (bd (zM (wr D 0 5 (D 0 5 + 1))) fun r M7 => if r = true then (bd (fX10_lays 3 (if q < T then D 1 (542 + q) else 0) M7) fun _ M9 => mL f M9) else some (false, M7)) else some (true, D))
    {C D : Mm} {q n : Nat} (h : PR u T C D q n o) : PT u T o (fX2_readLevel_b z1 z2 z3 (nI i) u (nI o) C) (bd (zM D) fun r M => if r = true then mL FU M else some (false, M)) C D q n 1 := by
  have hFU := FU_big
  have h60 := h.1.2.1
  obtain ⟨ok, C1, D1, e1, e2, e3, e4, e5, e6⟩ := hop C D q n h
  unfold fX2_readLevel_b
  rw [if_pos (show nI i < (5 : Int32) from nI_lt (b := 5) hi (by omega)), show nI i + 1 = nI (i + 1) from nI_1 i, e1, e2, bd_s, bd_s]
  cases ok with
  | true =>
    obtain ⟨q1, n1, p1, p2, p3, p4, p5, p6⟩ := e5 rfl
    obtain ⟨ok2, C2, D2, s1, s2, s3, s4, s5, s6⟩ := lv_loop (z2 := z2) (z3 := z3) hi hi2 hop hmL 60 FU FU 0 C1 D1 q1 n1 (by omega) (by omega) (by omega) (by omega) p1 (by omega)
    rw [show bi true = 1 from rfl, if_pos rfl, show (0 : Int32) = nI 0 from rfl, s1, s2]
    refine ⟨ok2, C2, D2, rfl, rfl, e3.tr s3, e4.tr s4, fun z => ?_, s6⟩
    obtain ⟨q3, n3, t1, t2, t3, t4, t5, t6⟩ := s5 z
    exact ⟨q3, n3, t1, by omega, by omega, by omega, by omega, fun j hj => by rw [t6 j (by omega), p6 j hj]⟩
  | false =>
    obtain ⟨g, hg⟩ : ∃ g, FU = g + 1 := ⟨FU - 1, by omega⟩
    have hL : fX2_readLevel_L26 z1 z2 z3 (nI i) u (nI o) FU 0 (bi false) C1 = some (false, C1) := by
      rw [hg]
      unfold fX2_readLevel_L26 fX2_readLevel_L26b fX2_readLevel_B99
      rw [show bi false = 0 from rfl, if_pos (show (0 : Int32) = 0 from rfl)]; rfl
    rw [hL, if_neg (by decide)]
    exact ⟨false, C1, D1, rfl, rfl, e3, e4, (fun z => by cases z), fun _ => e6 rfl⟩
