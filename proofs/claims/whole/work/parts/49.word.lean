/-! PURE 20: word. -/
theorem wfault_loop {n : Nat} (C D : Mm) (ht : TP C (D 1) n) : ∀ (m f1 f2 j : Nat), m < f1 → m < f2 → j + m = 8 → j ≤ n → (∀ i, i < j → ∃ g, 1 ≤ g ∧ g ≤ 26 ∧ D 1 (542 + i) = nI (96 + g)) → ∃ q, q ≤ n ∧ q ≤ 8 ∧ (∀ i, i < q → ∃ g, 1 ≤ g ∧ g ≤ 26 ∧ D 1 (542 + i) = nI (96 + g)) ∧ fX7_wordFault_L2 f1 (nI j) C = some (if q = n then (if n = 0 then 0 else -1) else nI q, C) ∧ fX10_word_L26 (nI n) f2 (nI j) D = fX10_word_B59 (nI q) (nI n) D := by
  have h60 := ht.2.1
  have done : ∀ (f1 f2 j : Nat), 0 < f1 → 0 < f2 → j ≤ n → j ≤ 8 → n ≤ j → (∀ i, i < j → ∃ g, 1 ≤ g ∧ g ≤ 26 ∧ D 1 (542 + i) = nI (96 + g)) → ∃ q, q ≤ n ∧ q ≤ 8 ∧ (∀ i, i < q → ∃ g, 1 ≤ g ∧ g ≤ 26 ∧ D 1 (542 + i) = nI (96 + g)) ∧ fX7_wordFault_L2 f1 (nI j) C = some (if q = n then (if n = 0 then 0 else -1) else nI q, C) ∧ fX10_word_L26 (nI n) f2 (nI j) D = fX10_word_B59 (nI q) (nI n) D := by
    intro f1 f2 j h1 h2 hj hj8 hn hi
    obtain ⟨g1, rfl⟩ : ∃ g, f1 = g + 1 := ⟨f1 - 1, by omega⟩
    obtain ⟨g2, rfl⟩ : ∃ g, f2 = g + 1 := ⟨f2 - 1, by omega⟩
    have e : j = n := by omega
    subst e
    refine ⟨j, Nat.le_refl j, hj8, hi, ?_, ?_⟩
    · unfold fX7_wordFault_L2 fX7_wordFault_L2b fX7_wordFault_B41 fX7_wordFault_B56
      rw [ht.1, if_pos (nI_le (by omega) (by omega)), if_pos rfl]
      by_cases h0 : j = 0
      · rw [if_pos h0, if_pos (show nI j = 0 by rw [h0]; rfl)]
      · rw [if_neg h0, if_neg (show ¬ nI j = 0 by rw [show (0 : Int32) = nI 0 from rfl, eq_nI (by omega) (by omega)]; exact h0)]
    · unfold fX10_word_L26 fX10_word_L26b
      rw [if_pos (nI_le (by omega) (by omega))]
  intro m
  induction m with
  | zero =>
    intro f1 f2 j h1 h2 hj hjn hi
    by_cases hn : n ≤ j
    · exact done f1 f2 j (by omega) (by omega) hjn (by omega) hn hi
    obtain ⟨g1, rfl⟩ : ∃ g, f1 = g + 1 := ⟨f1 - 1, by omega⟩
    obtain ⟨g2, rfl⟩ : ∃ g, f2 = g + 1 := ⟨f2 - 1, by omega⟩
    refine ⟨j, hjn, by omega, hi, ?_, ?_⟩
    · unfold fX7_wordFault_L2 fX7_wordFault_L2b fX7_wordFault_B33
      rw [ht.1, if_neg (show ¬ nI n ≤ nI j from nI_ge (by omega) (by omega)), if_pos (show (8 : Int32) ≤ nI j from nI_le (a := 8) (by omega) (by omega)), if_neg (show ¬ j = n by omega)]
    · unfold fX10_word_L26 fX10_word_L26b
      rw [if_neg (show ¬ nI n ≤ nI j from nI_ge (by omega) (by omega)), if_pos (show (8 : Int32) ≤ nI j from nI_le (a := 8) (by omega) (by omega))]
  | succ m ih =>
    intro f1 f2 j h1 h2 hj hjn hi
    by_cases hn : n ≤ j
    · exact done f1 f2 j (by omega) (by omega) hjn (by omega) hn hi
    obtain ⟨g1, rfl⟩ : ∃ g, f1 = g + 1 := ⟨f1 - 1, by omega⟩
    obtain ⟨g2, rfl⟩ : ∃ g, f2 = g + 1 := ⟨f2 - 1, by omega⟩
    unfold fX7_wordFault_L2 fX10_word_L26 fX7_wordFault_L2b fX10_word_L26b fX7_wordFault_B33
    rw [ht.1, if_neg (show ¬ nI n ≤ nI j from nI_ge (by omega) (by omega)), if_neg (show ¬ nI n ≤ nI j from nI_ge (by omega) (by omega)), if_neg (show ¬ (8 : Int32) ≤ nI j from nI_ge (b := 8) (by omega) (by omega)), if_neg (show ¬ (8 : Int32) ≤ nI j from nI_ge (b := 8) (by omega) (by omega)), ht.at (show j < n by omega), bd_s, e_isSmallLetter, bd_s, show (542 : Int32) + nI j = nI (542 + j) by rw [← nI_add]; rfl, inb_nI (by omega) (by omega), gd_t, ix_nI (by omega), e_glyphM, bd_s]
    by_cases hw : wi (D 1 (542 + j)) 97 122 = true
    · obtain ⟨g, k1, k2, k3, k4⟩ := wi_sm hw
      rw [if_pos hw, if_pos hw, k4, if_neg (show ¬ nI g ≤ 0 from nI_ge (a := 0) (by omega) (by omega)), show nI j + 1 = nI (j + 1) from nI_1 j]
      exact ih g1 g2 (j + 1) (by omega) (by omega) (by omega) (by omega) (fun i hi2 => by
        by_cases e : i = j
        · subst e; exact ⟨g, k1, k2, k3⟩
        · exact hi i (by omega))
    · rw [if_neg hw, if_neg hw, if_pos (show (0 : Int32) ≤ 0 by decide)]
      exact ⟨j, hjn, by omega, hi, by rw [if_neg (show ¬ j = n by omega)], rfl⟩
theorem wcopy_loop {w n : Nat} (hw : w < 8) (hn : n ≤ 8) (gl : Nat → Nat) (hgl : ∀ i, i < n → 1 ≤ gl i ∧ gl i ≤ 26) : ∀ (m f i : Nat) (D : Mm), m < f → i + m = n → (∀ q, q < n → D 1 (542 + q) = nI (96 + gl q)) → ∃ D', fX10_word_L104 (nI (220 + 9 * w)) (nI n) f (nI i) D = fX10_word_B141 D' ∧ (∀ q, i ≤ q → q < n → D' 1 (221 + 9 * w + q) = nI (gl q)) ∧ (∀ q, ¬ (221 + 9 * w + i ≤ q ∧ q < 221 + 9 * w + n) → D' 1 q = D 1 q) ∧ ∀ a, a ≠ 1 → D' a = D a := by
  intro m
  induction m with
  | zero =>
    intro f i D h1 hi hb
    obtain ⟨g, rfl⟩ : ∃ g, f = g + 1 := ⟨f - 1, by omega⟩
    unfold fX10_word_L104 fX10_word_L104b
    rw [if_pos (nI_le (by omega) (by omega))]
    exact ⟨D, rfl, fun q h1 h2 => by omega, fun _ _ => rfl, fun _ _ => rfl⟩
  | succ m ih =>
    intro f i D h1 hi hb
    obtain ⟨g, rfl⟩ : ∃ g, f = g + 1 := ⟨f - 1, by omega⟩
    have hg := hgl i (by omega)
    have hwi : wi (nI (96 + gl i)) 97 122 = true := by
      have a1 : (97 : Int32) ≤ nI (96 + gl i) := nI_le (a := 97) (by omega) (by omega)
      have a2 : nI (96 + gl i) ≤ (122 : Int32) := nI_le (b := 122) (by omega) (by omega)
      simp [wi, a1, a2]
    have hgv : (nI (96 + gl i) - 97) + 1 = nI (gl i) := by
      rw [show (97 : Int32) = nI 97 from rfl, pk_sub (by omega), show (1 : Int32) = nI 1 from rfl, nI_add]; exact congrArg nI (by omega)
    unfold fX10_word_L104 fX10_word_L104b
    rw [if_neg (show ¬ nI n ≤ nI i from nI_ge (by omega) (by omega)), show (542 : Int32) + nI i = nI (542 + i) by rw [← nI_add]; rfl, inb_nI (by omega) (by omega), gd_t, ix_nI (by omega), hb i (by omega), e_glyphM, bd_s, if_pos hwi, hgv, show (nI (220 + 9 * w) + 1) + nI i = nI (221 + 9 * w + i) by
      rw [show (1 : Int32) = nI 1 from rfl, nI_add, nI_add]; exact congrArg nI (by omega), inb_nI (by omega) (by omega), gd_t, ix_nI (by omega), lt_e, show nI i + 1 = nI (i + 1) from nI_1 i]
    obtain ⟨D', e1, e2, e3, e4⟩ := ih g (i + 1) (wr D 1 (221 + 9 * w + i) (nI (gl i))) (by omega) (by omega) (fun q hq => by rw [wr_at, if_neg (by omega)]; exact hb q hq)
    refine ⟨D', e1, fun q h1 h2 => ?_, fun q hq => ?_, fun a ha => by rw [e4 a ha, wr_c ha]⟩
    · by_cases e : q = i
      · subst e; rw [e3 _ (by omega), wr_s]
      · exact e2 q (by omega) h2
    · rw [e3 q (by omega), wr_at, if_neg (by omega)]
theorem r_word {C C' D D' : Mm} {w n : Nat} (gl : Nat → Nat) (h : Rel C D) (hw : nW (D 1) = w) (hw8 : w < 8) (hn1 : 1 ≤ n) (hn8 : n ≤ 8) (hgl : ∀ i, i < n → 1 ≤ gl i ∧ gl i ≤ 26)
    (d1 : D' 1 1 = nI (w + 1)) (d5 : D' 1 5 = 0) (dn : D' 1 (220 + 9 * w) = nI n) (db : ∀ j, j < n → D' 1 (221 + 9 * w + j) = nI (gl j)) (dE : ∀ i, i < 626 → i ≠ 1 → i ≠ 5 → ¬ (220 + 9 * w ≤ i ∧ i < 229 + 9 * w) → D' 1 i = D 1 i)
    (c0 : ∀ j, j ≠ 12 → C' 0 j = C 0 j) (c12 : C' 0 12 = nI (w + 1)) (cn : C' (48 + 2 * w) 1 = nI n) (cb : ∀ j, j < n → C' (49 + 2 * w) j = nI (gl j) + 96) (ct : C' 64 1 = 0) (cE : ∀ k, k ≠ 0 → k ≠ 48 + 2 * w → k ≠ 49 + 2 * w → k ≠ 64 → C' k = C k) (hmf : MF D D') : Rel C' D' := by
  obtain ⟨a, b, c, d, e, f, g⟩ := id h.si
  obtain ⟨r1, r2, r3, r4, r5, r6, r7, r8, r9⟩ := id h.rs
  obtain ⟨z1, z2, z3, z4, z5, z6, z7⟩ := h.si.sz
  have eT : nT (D' 1) = 0 := by unfold nT; rw [d5]; decide
  have eW : nW (D' 1) = w + 1 := by unfold nW; rw [d1, ix_nI (by omega)]
  have e0 := dE 0 (by omega) (by omega) (by omega) (by omega)
  have e6 := dE 6 (by omega) (by omega) (by omega) (by omega)
  have eVw : nV (D' 1) w = n := by unfold nV; rw [dn, ix_nI (by omega)]
  have eV : ∀ v, v < w → nV (D' 1) v = nV (D 1) v := fun v hv => by unfold nV; rw [dE _ (by omega) (by omega) (by omega) (by omega)]
  refine Rel_now h ⟨⟨by unfold nL at *; rw [e0]; exact a.1, by rw [eW]; exact ⟨d1, by omega⟩, by rw [eT, d5]; exact ⟨rfl, by omega⟩, by unfold nQ at *; rw [e6]; exact a.2.2.2⟩, kB (dE 2 (by omega) (by omega) (by omega) (by omega)) (dE 3 (by omega) (by omega) (by omega) (by omega)) (fun i h1 h2 => dE i (by omega) (by omega) (by omega) (by omega)) b, kC e0 z1 (fun i h1 h2 => dE i (by omega) (by omega) (by omega) (by omega)) c, kD e0 z1 (fun i h1 h2 => dE i (by omega) (by omega) (by omega) (by omega)) d, fun v hv => ?_, kF (fun i h1 h2 => dE i (by omega) (by omega) (by omega) (by omega)) f, fun j hj => by rw [eT] at hj; omega⟩ ⟨?_, kk (cE 1 (by omega) (by omega) (by omega) (by omega)) (fun i h1 h2 => dE i (by omega) (by omega) (by omega) (by omega)) r2, kh (cE 2 (by omega) (by omega) (by omega) (by omega)) (fun p hp => dE _ (by omega) (by omega) (by omega) (by omega)) r3, kl e0 z1 (fun k h1 h2 => cE k (by omega) (by omega) (by omega) (by omega)) (fun i h1 h2 => dE i (by omega) (by omega) (by omega) (by omega)) r4, kp z5 (fun k h1 h2 => cE k (by omega) (by omega) (by omega) (by omega)) (fun p j h1 h2 h3 => dE _ (by omega) (by omega) (by omega) (by omega)) r5, ⟨fun v hv => by
    by_cases q : v = w
    · subst q; exact ⟨n, hn8, by rw [show 0 + 48 + 2 * v = 48 + 2 * v by omega]; exact cn⟩
    · rw [cE (0 + 48 + 2 * v) (by omega) (by omega) (by omega) (by omega)]; exact r6.1 v hv, fun v hv => ?_⟩, kt z7 (fun k h1 => cE k (by omega) (by omega) (by omega) (by omega)) (fun i h1 h2 => dE i (by omega) (by omega) (by omega) (by omega)) r7, ⟨by rw [d5]; exact ct, fun j hj => by rw [eT] at hj; omega⟩, kq e6 z4 (cE 66 (by omega) (by omega) (by omega) (by omega)) (cE 67 (by omega) (by omega) (by omega) (by omega)) (fun i h1 h2 => dE i (by omega) (by omega) (by omega) (by omega)) r9⟩ (fun k hk => cE k (by omega) (by omega) (by omega) (by omega)) hmf
  · rw [eW] at hv
    by_cases q : v = w
    · subst q
      unfold WOK
      rw [eVw]
      exact ⟨dn, hn1, hn8, fun j hj => ⟨gl j, (hgl j hj).1, (hgl j hj).2, db j hj⟩⟩
    · obtain ⟨x1, x2, x3, x4⟩ := e v (by omega)
      unfold WOK
      rw [eV v (by omega)]
      exact ⟨by rw [dE _ (by omega) (by omega) (by omega) (by omega)]; exact x1, x2, x3, fun j hj => by rw [dE _ (by omega) (by omega) (by omega) (by omega)]; exact x4 j hj⟩
  · unfold RSc at *
    rw [c0 1 (by omega), c0 2 (by omega), c0 3 (by omega), c0 4 (by omega), c0 6 (by omega), c12, d1, dE 2 (by omega) (by omega) (by omega) (by omega), dE 3 (by omega) (by omega) (by omega) (by omega), dE 4 (by omega) (by omega) (by omega) (by omega), dE 7 (by omega) (by omega) (by omega) (by omega), e0]
    exact ⟨r1.1, r1.2.1, r1.2.2.1, r1.2.2.2.1, r1.2.2.2.2.1, rfl⟩
  · rw [eW] at hv
    by_cases q : v = w
    · subst q
      rw [eVw, show 0 + 48 + 2 * v = 48 + 2 * v by omega, show 0 + 49 + 2 * v = 49 + 2 * v by omega, cn, dn]
      exact ⟨rfl, fun j hj => by rw [db j hj]; exact cb j hj⟩
    · have hV := z6 v (by omega)
      rw [eV v (by omega), cE (0 + 48 + 2 * v) (by omega) (by omega) (by omega) (by omega), cE (0 + 49 + 2 * v) (by omega) (by omega) (by omega) (by omega), dE _ (by omega) (by omega) (by omega) (by omega)]
      exact ⟨(r6.2 v (by omega)).1, fun j hj => by rw [dE _ (by omega) (by omega) (by omega) (by omega)]; exact (r6.2 v (by omega)).2 j hj⟩
theorem op_word {C D : Mm} (h : Rel C D) : Op (fX9_word C) (fX10_word D) := by
  have hFU := FU_big
  have hT := h.si.1.2.2.1
  have hW := h.si.1.2.1
  have e12 := h.rs.1.2.2.2.2.2
  unfold fX9_word fX10_word
  rw [e12, ix_lit1, ix_lit5, hW.1]
  by_cases h8 : nW (D 1) = 8
  · rw [h8, if_neg (show ¬ nI 8 < (8 : Int32) by decide), if_pos (show nI 8 = (8 : Int32) by decide), e_ref4, e_err4]
    exact op_err h (by decide) (by decide)
  rw [if_pos (show nI (nW (D 1)) < (8 : Int32) from nI_lt (b := 8) (by omega) (by omega)), if_neg (show ¬ nI (nW (D 1)) = (8 : Int32) by rw [show (8 : Int32) = nI 8 from rfl, eq_nI (by omega) (by omega)]; exact h8), lt_e, hT.1]
  have htp : TP C (D 1) (nT (D 1)) := ⟨h.rs.2.2.2.2.2.2.2.1.1.trans hT.1, hT.2, fun i hi => h.rs.2.2.2.2.2.2.2.1.2 i hi⟩
  obtain ⟨q, q1, q8, q2, q3, q4⟩ := wfault_loop C D htp 8 FU FU 0 (by omega) (by omega) (by omega) (by omega) (fun i hi => by omega)
  unfold fX7_wordFault
  rw [show nI 0 = (0 : Int32) from rfl] at q3 q4
  rw [q3, bd_s, q4]
  unfold fX9_word_B45 fX10_word_B59 fX9_word_B88 fX10_word_B75
  rw [lt_e, ix_lit5]
  have h0 := r_tape0 h
  by_cases hq : q = nT (D 1)
  · by_cases hz : nT (D 1) = 0
    · have hz' : q = 0 := by omega
      rw [if_pos hq, if_pos hz, hz', hz, if_neg (show ¬ (0 : Int32) < 0 by decide), if_pos (show (0 : Int32) ≤ 0 by decide), e_clear (by decide), bd_s, if_neg (show ¬ nI 0 < nI 0 by decide), if_pos (show nI 0 = (0 : Int32) by decide)]
      exact ⟨_, _, _, rfl, rfl, h0⟩
    · rw [if_pos hq, if_neg hz, if_pos (show (-1 : Int32) < 0 by decide), if_neg (show ¬ (0 : Int32) ≤ -1 by decide), e12, hW.1, inb_nI (show nW (D 1) < 8 by omega) (by omega), gd_t, ix_nI (by omega), c_wrd _ (show nW (D 1) < 8 by omega), gd_t]
      have hn8 : nT (D 1) ≤ 8 := by omega
      have hcap : aN layC (48 + 2 * nW (D 1) + 1) = 8 := by
        have := a_wrd (nW (D 1)) (by omega)
        rw [show 49 + 2 * nW (D 1) = 48 + 2 * nW (D 1) + 1 by omega] at this; exact this
      rw [e_takeFrom (k := 48 + 2 * nW (D 1)) (k2 := 64) (n := nT (D 1)) (c_wrd _ (by omega)) (by decide) htp.1 (by omega) (show nT (D 1) ≤ 60 by omega), bd_s, lt_e, e_clear (by decide), bd_s]
      rw [hq, if_neg (show ¬ nI (nT (D 1)) < nI (nT (D 1)) from nI_nlt (Nat.le_refl _) (by omega)), if_neg (show ¬ nI (nT (D 1)) = 0 by rw [show (0 : Int32) = nI 0 from rfl, eq_nI (by omega) (by omega)]; exact hz), ix_lit1, lt_e]
      have e1 : wr D 1 5 0 1 1 = nI (nW (D 1)) := by rw [wr_at, if_neg (by omega)]; exact hW.1
      rw [e1, show (220 : Int32) + (9 : Int32) * nI (nW (D 1)) = nI (220 + 9 * nW (D 1)) by rw [← nI_add, ← pk_mul]; rfl, inb_nI (by omega) (by omega), gd_t, ix_nI (by omega), lt_e]
      rw [hq] at q2
      have hch : ∃ gl : Nat → Nat, ∀ i, i < nT (D 1) → 1 ≤ gl i ∧ gl i ≤ 26 ∧ D 1 (542 + i) = nI (96 + gl i) := by
        refine ⟨fun i => ix (D 1 (542 + i)) - 96, fun i hi => ?_⟩
        obtain ⟨g, g1, g2, g3⟩ := q2 i hi
        dsimp only
        rw [g3, ix_nI (by omega)]
        refine ⟨by omega, by omega, congrArg nI (by omega)⟩
      obtain ⟨gl, hgl⟩ := hch
      obtain ⟨D', s1, s2, s3, s4⟩ := wcopy_loop (w := nW (D 1)) (n := nT (D 1)) (by omega) hn8 gl (fun i hi => ⟨(hgl i hi).1, (hgl i hi).2.1⟩) (nT (D 1)) FU 0 (wr (wr D 1 5 0) 1 (220 + 9 * nW (D 1)) (nI (nT (D 1)))) (by omega) (by omega) (fun q hq => by rw [wr_at, if_neg (by omega), wr_at, if_neg (by omega)]; exact (hgl q hq).2.2)
      rw [show nI 0 = (0 : Int32) from rfl] at s1
      rw [s1]
      unfold fX10_word_B141
      rw [ix_lit1, lt_e]
      have d1 : D' 1 1 = nI (nW (D 1)) := by rw [s3 1 (by omega), wr_at, if_neg (by omega), e1]
      rw [d1, wr_s, nI_1, nI_m1]
      have c1 : cpm (wr C (48 + 2 * nW (D 1)) 1 (nI (nT (D 1)))) (64 + 1) 0 (48 + 2 * nW (D 1) + 1) 0 (nT (D 1)) 0 12 = nI (nW (D 1)) := by
        rw [cpm_c (by omega), wr_c (by omega), e12, hW.1]
      rw [c1, nI_1]
      refine ⟨_, _, _, rfl, rfl, ?_⟩
      refine r_word (w := nW (D 1)) (n := nT (D 1)) gl h rfl (by omega) (by omega) hn8 (fun i hi => ⟨(hgl i hi).1, (hgl i hi).2.1⟩) wr_s ?_ ?_ (fun j hj => ?_) (fun i h1 h2 h3 h4 => ?_) (fun j hj => ?_) ?_ ?_ (fun j hj => ?_) wr_s (fun k k0 k1 k2 k3 => ?_) ?_
      · rw [wr_at, if_neg (by omega), s3 5 (by omega), wr_at, if_neg (by omega), wr_s]
      · rw [wr_at, if_neg (by omega), s3 _ (by omega), wr_s]
      · rw [wr_at, if_neg (by omega), s2 j (by omega) hj]
      · rw [wr_at, if_neg (by omega), s3 _ (by omega), wr_at, if_neg (by omega), wr_at, if_neg (by omega)]
      · rw [wr_c (by omega), wr_j hj, cpm_c (by omega), wr_c (by omega)]
      · rw [wr_c (by omega), wr_s]
      · rw [wr_c (by omega), wr_c (by omega), cpm_c (by omega), wr_s]
      · rw [wr_c (by omega), wr_c (by omega), show 49 + 2 * nW (D 1) = 48 + 2 * nW (D 1) + 1 by omega, cpm_k]
        unfold va_cpy
        rw [if_pos (by omega), wr_c (by omega), show 64 + 1 = 65 from rfl, show 0 + (j - 0) = j by omega, htp.2.2 j hj, (hgl j hj).2.2, show (96 : Int32) = nI 96 from rfl, nI_add]
        exact congrArg nI (by omega)
      · rw [wr_c k3, wr_c k0, cpm_c (by omega), wr_c k1]
      · exact (MF_1.tr MF_1).tr (MF.tr ⟨s4 2 (by decide), s4 4 (by decide), s4 12 (by decide), s4 13 (by decide), s4 14 (by decide), s4 15 (by decide), by rw [s4 0 (by decide)], by rw [s4 0 (by decide)]⟩ MF_1)
  · rw [if_neg hq, if_neg (show ¬ nI q < 0 from nI_pos (by omega)), if_pos (show (0 : Int32) ≤ nI q from nI_pos' (by omega)), e_clear (by decide), bd_s, if_pos (show nI q < nI (nT (D 1)) from nI_lt (by omega) (by omega))]
    exact ⟨_, _, _, rfl, rfl, h0⟩
