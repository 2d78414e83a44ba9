/-! PURE 8: bytes fed, texts untold. -/
theorem feed_byte (v : Int64) {k : Nat} (hk : k < 8) : (((v.toUInt64 >>> (((8 : Int32) * nI k).toInt64.toUInt64 &&& Int64.toUInt64 63)).toInt64).toInt32) &&& 255 = ((v >>> (((8 : Int32) * nI k).toInt64 &&& 63)) &&& (255 : Int64)).toInt32 := by
  have a1 : ∀ j : Fin 8, ((((8 : Int32) * nI j.val).toInt64.toUInt64 &&& Int64.toUInt64 63).toBitVec.toNat % 64) = 8 * j.val := by decide
  have a2 : ∀ j : Fin 8, ((((8 : Int32) * nI j.val).toInt64 &&& 63).toBitVec.smod 64).toNat = 8 * j.val := by decide
  have b1 := a1 ⟨k, hk⟩
  have b2 := a2 ⟨k, hk⟩
  dsimp only at b1 b2
  generalize (((8 : Int32) * nI k).toInt64.toUInt64 &&& Int64.toUInt64 63) = x at b1 ⊢
  generalize (((8 : Int32) * nI k).toInt64 &&& 63) = y at b2 ⊢
  apply Int32.toBitVec_inj.mp
  apply BitVec.eq_of_getLsbD_eq
  intro i hi
  simp
  have c1 : x.toNat % 64 = 8 * k := b1
  have c2 : (y.toBitVec.smod 64#64).toNat = 8 * k := b2
  rw [c1, c2]
  have c3 : ∀ j : Fin 32, (255#32).getLsbD j.val = decide (j.val < 8) := by decide
  have c4 := c3 ⟨i, hi⟩
  dsimp only at c4
  rw [c4]
  by_cases h8 : i < 8
  · have : 8 * k + i < 64 := by omega
    have h2 : i < 64 := by omega
    rw [BitVec.getLsbD_signExtend, BitVec.getLsbD_signExtend, BitVec.getLsbD_sshiftRight, BitVec.getLsbD_ushiftRight]
    have h3 : ¬ 64 ≤ i := by omega
    simp [hi, h2, this, h3]
  · simp [h8]

theorem byte_le (x : Int32) : ∃ k, k ≤ 255 ∧ x &&& 255 = nI k := by
  obtain ⟨j, hj, e⟩ := pk_andE x (m := 255) 8 (by decide)
  exact ⟨j, by omega, e⟩
theorem feed_loop {v : Int64} {n : Nat} (hn8 : n ≤ 8) : ∀ (m f1 f2 i : Nat) (C D : Mm), m < f1 → m < f2 → i + m = n → nT (D 1) + m ≤ 60 → Rel C D → Op (fX9_feed_L44 v (nI n) f1 (nI i) C) (fX10_feed_L38 v (nI n) f2 (nI i) D) := by
  intro m
  induction m with
  | zero =>
    intro f1 f2 i C D h1 h2 hi ht h
    obtain ⟨g1, rfl⟩ : ∃ g, f1 = g + 1 := ⟨f1 - 1, by omega⟩
    obtain ⟨g2, rfl⟩ : ∃ g, f2 = g + 1 := ⟨f2 - 1, by omega⟩
    have hin : i = n := by omega
    subst hin
    unfold fX9_feed_L44 fX10_feed_L38 fX9_feed_L44b fX10_feed_L38b fX9_feed_B79 fX10_feed_B87
    rw [if_pos (nI_le (Nat.le_refl i) (by omega)), if_pos (nI_le (Nat.le_refl i) (by omega)), ix_lit5]
    exact ⟨_, _, _, rfl, by rw [h.rs.2.2.2.2.2.2.2.1.1], h⟩
  | succ m ih =>
    intro f1 f2 i C D h1 h2 hi ht h
    obtain ⟨g1, rfl⟩ : ∃ g, f1 = g + 1 := ⟨f1 - 1, by omega⟩
    obtain ⟨g2, rfl⟩ : ∃ g, f2 = g + 1 := ⟨f2 - 1, by omega⟩
    have hle : ¬ nI n ≤ nI i := nI_ge (by omega) (by omega)
    have hT := h.si.1.2.2.1
    have eC : C 64 1 = nI (nT (D 1)) := h.rs.2.2.2.2.2.2.2.1.1.trans hT.1
    have hc : isC layC 64 5 = true := by decide
    have hcap : aN layC (64 + 1) = 60 := by decide
    unfold fX9_feed_L44 fX10_feed_L38 fX9_feed_L44b fX10_feed_L38b
    rw [if_neg hle, if_neg hle, e_add hc eC (by omega), ix_lit5, show (542 : Int32) + D 1 5 = nI (542 + nT (D 1)) by rw [hT.1, ← nI_add]; rfl, feed_byte v (show i < 8 by omega)]
    simp only [bd_s, inb_nI (n := 542 + nT (D 1)) (N := 626) (by omega) (by omega), gd_t, ix_nI (n := 542 + nT (D 1)) (by omega), lt_e]
    obtain ⟨k, hk, ek⟩ : ∃ k, k ≤ 255 ∧ ((v >>> (((8 : Int32) * nI i).toInt64 &&& 63)) &&& (255 : Int64)).toInt32 = nI k := by
      rw [← feed_byte v (show i < 8 by omega)]
      exact byte_le _
    rw [ek]
    generalize hn0 : nT (D 1) = t at *
    have e5 : wr D 1 (542 + t) (nI k) 1 5 + 1 = nI (t + 1) := by rw [wr_at, if_neg (by omega), hT.1, nI_1]
    rw [e5, show nI i + 1 = nI (i + 1) from nI_1 i]
    have hrel : Rel (wr (wr C (64 + 1) t (nI k)) 64 1 (nI (t + 1))) (wr (wr D 1 (542 + t) (nI k)) 1 5 (nI (t + 1))) := by
      refine r_tape (n := t + 1) h (by omega) wr_s wr_s (fun q h1 h2 h3 => ?_) (fun q h1 h2 h3 _ _ _ _ => ?_) (fun j hj => ?_) ((CF_lo (by omega)).tr (CF_lo (by omega))) (MF_1.tr MF_1)
      · rw [wr_at, if_neg (by omega), wr_at, if_neg (by omega)]
      · rw [wr_c h2, wr_c (by omega)]
      · have e1 : wr (wr D 1 (542 + t) (nI k)) 1 5 (nI (t + 1)) 1 (542 + j) = if j = t then nI k else D 1 (542 + j) := by
          rw [wr_at, if_neg (by omega), wr_at]
          by_cases e : j = t
          · rw [if_pos (by omega), if_pos e]
          · rw [if_neg (by omega), if_neg e]
        have e2 : wr (wr C (64 + 1) t (nI k)) 64 1 (nI (t + 1)) 65 j = if j = t then nI k else C 65 j := by
          rw [wr_at, if_neg (by omega), wr_at]
          by_cases e : j = t
          · rw [if_pos (by omega), if_pos e]
          · rw [if_neg (by omega), if_neg e]
        rw [e1, e2]
        by_cases e : j = t
        · rw [if_pos e, if_pos e]; exact ⟨rfl, k, hk, rfl⟩
        · rw [if_neg e, if_neg e]
          exact ⟨h.rs.2.2.2.2.2.2.2.1.2 j (by omega), h.si.2.2.2.2.2.2 j (by omega)⟩
    refine ih g1 g2 (i + 1) _ _ (by omega) (by omega) (by omega) ?_ hrel
    have : nT (wr (wr D 1 (542 + t) (nI k)) 1 5 (nI (t + 1)) 1) = t + 1 := by unfold nT; rw [wr_s, ix_nI (by omega)]
    omega
theorem FU_big : 1000 < FU := by decide
theorem op_feed {C D : Mm} (h : Rel C D) (v : Int64) (a : Int32) : Op (fX9_feed v a C) (fX10_feed v a D) := by
  have hT := h.si.1.2.2.1
  have eC : C 64 1 = D 1 5 := h.rs.2.2.2.2.2.2.2.1.1
  unfold fX9_feed fX10_feed
  simp only [lt_e, bd_s, gd_t, e_isWithin, e_in, e_hold, e_held, e_isPageC, e_isPage, eq_self, if_true, if_false, Bool.false_eq_true, bi_t, bi_f, ix_lit0, ix_lit1, ix_lit2, ix_lit3, ix_lit4, ix_lit5, ix_lit6, ix_lit7, eC]
  by_cases hw : wi a 1 8 = true
  · obtain ⟨n, n1, n8, rfl⟩ := wiR (lo := 1) (hi := 8) (by omega) hw (by omega)
    simp only [hw, if_true]
    have e : D 1 5 + nI n = nI (nT (D 1) + n) := by rw [hT.1, nI_add]
    rw [e]
    by_cases hle : nT (D 1) + n ≤ 60
    · rw [if_pos (show nI (nT (D 1) + n) ≤ (60 : Int32) from nI_le (b := 60) hle (by omega)), if_pos (show nI (nT (D 1) + n) ≤ (60 : Int32) from nI_le (b := 60) hle (by omega))]
      have := FU_big
      exact feed_loop n8 n FU FU 0 C D (by omega) (by omega) (by omega) (by omega) h
    · have hT2 := hT.2
      rw [if_neg (show ¬ nI (nT (D 1) + n) ≤ (60 : Int32) from nI_ge (a := 60) (by omega) (by omega)), if_neg (show ¬ nI (nT (D 1) + n) ≤ (60 : Int32) from nI_ge (a := 60) (by omega) (by omega))]
      simp only [e_ref4, e_err4, bd_s]
      exact op_err h (by decide) (by decide)
  · simp only [hw, if_false, Bool.false_eq_true, e_ref1, e_err1, bd_s]
    exact op_err h (by decide) (by decide)
/-- a text of a use: what is new in both -/
theorem r_text {C C' D D' : Mm} {u : Nat} (hu : u < 2) (h : Rel C D) (hE : ∀ i, i < 626 → ¬ (292 + 125 * u ≤ i ∧ i < 417 + 125 * u) → D' 1 i = D 1 i) (hCC : ∀ k, k < 68 → k ≠ 38 + 5 * u → k ≠ 39 + 5 * u → k ≠ 40 → k ≠ 41 → k ≠ 45 → k ≠ 46 → C' k = C k) (ht : TOK (D' 1) u) (e1 : C' (38 + 5 * u) 1 = D' 1 (292 + 125 * u)) (hsr : ∀ k, k < nX (D' 1) u → SR u (C' (39 + 5 * u) k) (D' 1 (293 + 125 * u + 2 * k)) (D' 1 (294 + 125 * u + 2 * k))) (hcf : CF C C') (hmf : MF D D') : Rel C' D' := by
  obtain ⟨a, b, c, d, e, f, g⟩ := id h.si
  obtain ⟨r1, r2, r3, r4, r5, r6, r7, r8, r9⟩ := id h.rs
  obtain ⟨z1, z2, z3, z4, z5, z6, z7⟩ := h.si.sz
  have g0 := hE 0 (by omega) (by omega)
  have g1 := hE 1 (by omega) (by omega)
  have g5 := hE 5 (by omega) (by omega)
  have g6 := hE 6 (by omega) (by omega)
  have hC' : ∀ k, k < 68 → k ≠ 38 → k ≠ 39 → k ≠ 40 → k ≠ 41 → k ≠ 43 → k ≠ 44 → k ≠ 45 → k ≠ 46 → C' k = C k := fun k _ _ _ _ _ _ _ _ _ => hCC k (by omega) (by omega) (by omega) (by omega) (by omega) (by omega) (by omega)
  refine Rel_now h ⟨SIa_congr g0.symm g1.symm g5.symm g6.symm a, kB (hE 2 (by omega) (by omega)) (hE 3 (by omega) (by omega)) (fun i h1 h2 => hE i (by omega) (by omega)) b, kC g0 z1 (fun i h1 h2 => hE i (by omega) (by omega)) c, kD g0 z1 (fun i h1 h2 => hE i (by omega) (by omega)) d, kE g1 z2 (fun i h1 h2 => hE i (by omega) (by omega)) e, ?_, kG g5 z3 (fun i h1 h2 => hE i (by omega) (by omega)) g⟩ ⟨?_, kk (hC' 1 (by omega) (by omega) (by omega) (by omega) (by omega) (by omega) (by omega) (by omega) (by omega)) (fun i h1 h2 => hE i (by omega) (by omega)) r2, kh (hC' 2 (by omega) (by omega) (by omega) (by omega) (by omega) (by omega) (by omega) (by omega) (by omega)) (fun p hp => hE _ (by omega) (by omega)) r3, kl g0 z1 (fun k h1 h2 => hC' k (by omega) (by omega) (by omega) (by omega) (by omega) (by omega) (by omega) (by omega) (by omega)) (fun i h1 h2 => hE i (by omega) (by omega)) r4, kp z5 (fun k h1 h2 => hC' k (by omega) (by omega) (by omega) (by omega) (by omega) (by omega) (by omega) (by omega) (by omega)) (fun p j h1 h2 h3 => hE _ (by omega) (by omega)) r5, kw g1 z2 z6 (fun k h1 h2 => hC' k (by omega) (by omega) (by omega) (by omega) (by omega) (by omega) (by omega) (by omega) (by omega)) (fun i h1 h2 => hE i (by omega) (by omega)) r6, fun w hw => ?_, ka g5 z3 (hC' 64 (by omega) (by omega) (by omega) (by omega) (by omega) (by omega) (by omega) (by omega) (by omega)) (hC' 65 (by omega) (by omega) (by omega) (by omega) (by omega) (by omega) (by omega) (by omega) (by omega)) (fun i h1 h2 => hE i (by omega) (by omega)) r8, kq g6 z4 (hC' 66 (by omega) (by omega) (by omega) (by omega) (by omega) (by omega) (by omega) (by omega) (by omega)) (hC' 67 (by omega) (by omega) (by omega) (by omega) (by omega) (by omega) (by omega) (by omega) (by omega)) (fun i h1 h2 => hE i (by omega) (by omega)) r9⟩ hcf hmf
  · rcases (show u = 0 ∨ u = 1 by omega) with rfl | rfl
    · exact ⟨ht, TOK_congr (fun j hj => (hE _ (by omega) (by omega)).symm) f.2⟩
    · exact ⟨TOK_congr (fun j hj => (hE _ (by omega) (by omega)).symm) f.1, ht⟩
  · unfold RSc at *
    rw [hC' 0 (by omega) (by omega) (by omega) (by omega) (by omega) (by omega) (by omega) (by omega) (by omega), hE 2 (by omega) (by omega), hE 3 (by omega) (by omega), hE 4 (by omega) (by omega), hE 7 (by omega) (by omega), g0, g1]
    exact r1
  · by_cases ew : w = u
    · subst ew
      rw [show 0 + 38 + 5 * w = 38 + 5 * w by omega, show 0 + 39 + 5 * w = 39 + 5 * w by omega]
      exact ⟨e1, hsr⟩
    · have eX : nX (D' 1) w = nX (D 1) w := by unfold nX; rw [hE _ (by omega) (by omega)]
      have := z7 w hw
      rw [hCC (0 + 38 + 5 * w) (by omega) (by omega) (by omega) (by omega) (by omega) (by omega) (by omega), hCC (0 + 39 + 5 * w) (by omega) (by omega) (by omega) (by omega) (by omega) (by omega) (by omega), hE _ (by omega) (by omega), eX]
      exact ⟨(r7 w hw).1, fun k hk => by rw [hE _ (by omega) (by omega), hE _ (by omega) (by omega)]; exact (r7 w hw).2 k hk⟩
theorem r_untell {C D : Mm} {u : Nat} (hu : u < 2) (h : Rel C D) : Rel (wr C (38 + 5 * u) 1 0) (wr D 1 (292 + 125 * u) 0) := by
  have eX : nX (wr D 1 (292 + 125 * u) 0 1) u = 0 := by unfold nX; rw [wr_s]; decide
  refine r_text hu h (fun i _ h1 => by rw [wr_at, if_neg (by omega)]) (fun k h1 h2 h3 _ _ _ _ => wr_c h2) ⟨by rw [eX, wr_s]; rfl, by omega, fun k hk => by omega⟩ (by rw [wr_s, wr_s]) (fun k hk => by omega) (CF_lo (by omega)) MF_1
theorem e_hasText {u : Nat} (hu : u < 2) (M : Mm) : fX10_hasText (nI u) M = some (decide (¬ M 1 (292 + 125 * u) ≤ 0), M) := by
  unfold fX10_hasText fX10_hasText_B21
  rw [show (292 : Int32) + (125 : Int32) * nI u = nI (292 + 125 * u) by rw [← nI_add, ← pk_mul]; rfl, inb_nI (by omega) (by omega), ix_nI (by omega)]
  by_cases hle : M 1 (292 + 125 * u) ≤ 0
  · simp [gd, hle, isb]
  · simp [gd, hle, isb]
theorem e_isTold {k : Nat} (hc : isC layC k 1 = true) (hr : fR layC k 0 = k + 1) (hc2 : isC layC (k + 1) 5 = true) (M : Mm) : fX1_isTold k M = some (decide (¬ M (k + 1) 1 ≤ 0), M) := by
  unfold fX1_isTold fX1_isTold_B15
  rw [hc, hr, hc2]
  by_cases hle : M (k + 1) 1 ≤ 0
  · simp [gd, hle, isb]
  · simp [gd, hle, isb]
theorem e_lawOf {u : Nat} (hu : u < 2) (M : Mm) : fX7_lawOf (nI u) M = some (37 + 5 * u, M) := by
  unfold fX7_lawOf fX7_lawOf_B15
  rcases (show u = 0 ∨ u = 1 by omega) with rfl | rfl
  · rfl
  · rfl
theorem op_untell {C D : Mm} (h : Rel C D) (a : Int32) : Op (fX9_untell a C) (fX10_untell a D) := by
  unfold fX9_untell fX10_untell
  simp only [lt_e, bd_s, gd_t, e_isWithin, e_in, e_hold, e_held, e_isPageC, e_isPage, eq_self, if_true, if_false, Bool.false_eq_true, bi_t, bi_f, ix_lit0, ix_lit1, ix_lit2, ix_lit3, ix_lit4, ix_lit5, ix_lit6, ix_lit7]
  by_cases hw : wi a 0 1 = true
  · obtain ⟨u, hu, rfl⟩ := wi_in (n := 1) (by omega) hw
    have hu2 : u < 2 := by omega
    have c1 : isC layC (37 + 5 * u) 1 = true := by rcases (show u = 0 ∨ u = 1 by omega) with rfl | rfl <;> decide
    have c2 : fR layC (37 + 5 * u) 0 = 37 + 5 * u + 1 := by rcases (show u = 0 ∨ u = 1 by omega) with rfl | rfl <;> decide
    have c3 : isC layC (37 + 5 * u + 1) 5 = true := by rcases (show u = 0 ∨ u = 1 by omega) with rfl | rfl <;> decide
    have e1 : C (37 + 5 * u + 1) 1 = D 1 (292 + 125 * u) := by
      have := (h.rs.2.2.2.2.2.2.1 u hu2).1
      rw [show 0 + 38 + 5 * u = 37 + 5 * u + 1 by omega] at this; exact this
    simp only [hw, if_true, e_lawOf hu2, bd_s, c1, gd_t, e_isTold c1 c2 c3, e_hasText hu2, e1]
    have ei : (292 : Int32) + (125 : Int32) * nI u = nI (292 + 125 * u) := by rw [← nI_add, ← pk_mul]; rfl
    have key : ∀ r : Int32, Op (fX9_untell_B37 (37 + 5 * u) r C) (fX10_untell_B28 (nI u) r D) := by
      intro r
      unfold fX9_untell_B37 fX10_untell_B28
      rw [c1, c2, c3, e_clear c3, ei, inb_nI (by omega) (by omega), ix_nI (by omega)]
      refine ⟨_, _, _, rfl, rfl, ?_⟩
      have := r_untell hu2 h
      rw [show 38 + 5 * u = 37 + 5 * u + 1 by omega] at this
      exact this
    by_cases hle : D 1 (292 + 125 * u) ≤ 0
    · simp only [hle, not_true_eq_false, decide_false, Bool.false_eq_true, if_false]
      exact key 0
    · simp only [hle, not_false_eq_true, decide_true, if_true]
      exact key 1
  · simp only [hw, if_false, Bool.false_eq_true, e_ref1, e_err1, bd_s]
    exact op_err h (by decide) (by decide)
