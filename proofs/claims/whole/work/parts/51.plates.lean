/-! PURE 22: sheet, put, move, casts. -/
theorem f_plt : ∀ i, i < 4 → fR layC (160 + 3 * i) 0 = 161 + 3 * i := by decide +kernel
theorem Rel_plates {C C' D D' : Mm} (h : Rel C D) (hc : ∀ a, (a < 160 ∨ 172 ≤ a) → C' a = C a) (hd : ∀ a, a ≠ 13 → a ≠ 14 → a ≠ 15 → a ≠ 16 → D' a = D a) (hp : RP C' D') : Rel C' D' := by
  obtain ⟨h1, h2, h3, h4, h5, h6⟩ := h
  have d0 := hd 0 (by decide) (by decide) (by decide) (by decide)
  have d1 := hd 1 (by decide) (by decide) (by decide) (by decide)
  have d2 := hd 2 (by decide) (by decide) (by decide) (by decide)
  have d4 := hd 4 (by decide) (by decide) (by decide) (by decide)
  have d12 := hd 12 (by decide) (by decide) (by decide) (by decide)
  refine ⟨by rw [d1]; exact h1, by rw [d1]; exact RS_frame h1 (fun a ha => hc a (by unfold shc at ha; omega)) h2, ?_, fun k k1 k2 => ?_, ?_, hp⟩
  · unfold RK at *
    rw [d0, d2, hc 173 (by omega)]
    exact ⟨h3.1, fun hn => ⟨(h3.2 hn).1, RS_frame (h3.2 hn).1 (fun a ha => hc a (by unfold shc at ha; omega)) (h3.2 hn).2⟩⟩
  · rw [hc 172 (by omega), d4]; exact h4 k k1 k2
  · unfold RT at *
    rw [d0, d12, hc 157 (by omega), hc 158 (by omega)]; exact h5
theorem Rel.plt {C D : Mm} (h : Rel C D) {i : Nat} (hi : i < 4) : ∃ n, n ≤ 24 ∧ D 14 i = nI n ∧ C (161 + 3 * i) 1 = nI n ∧ C (160 + 3 * i) 1 = D 13 i ∧ (D 13 i = 0 ∨ D 13 i = 8 ∨ D 13 i = 16 ∨ D 13 i = 32) ∧ ∀ j, j < n → C (162 + 3 * i) j = D 15 (24 * i + j) := by
  obtain ⟨p1, p2, p3, ⟨n, hn, p4⟩, p5⟩ := h.2.2.2.2.2 i hi
  refine ⟨n, hn, p4, p3.trans p4, p1, p2, fun j hj => p5 j (by rw [p4, ix_nI (by omega)]; exact hj)⟩
theorem bz_loop {k n : Nat} (hc : isC layC k 5 = true) (hn : n ≤ aN layC (k + 1)) : ∀ (m f j : Nat) (M : Mm), m < f → j + m = n → M k 1 = nI n → ∃ M', fX5_beZeros_L16 k f (nI j) M = some ((), M') ∧ (∀ q, j ≤ q → q < n → M' (k + 1) q = 0) ∧ (∀ q, q < j → M' (k + 1) q = M (k + 1) q) ∧ ∀ a, a ≠ k + 1 → M' a = M a := by
  obtain ⟨a1, a2, a3⟩ := c_row hc
  intro m
  induction m with
  | zero =>
    intro f j M h1 hj e
    obtain ⟨g, rfl⟩ : ∃ g, f = g + 1 := ⟨f - 1, by omega⟩
    unfold fX5_beZeros_L16 fX5_beZeros_L16b fX5_beZeros_B37
    rw [hc, gd_t, e, if_pos (nI_le (by omega) (by omega))]
    exact ⟨M, rfl, fun q h1 h2 => by omega, fun _ _ => rfl, fun _ _ => rfl⟩
  | succ m ih =>
    intro f j M h1 hj e
    obtain ⟨g, rfl⟩ : ∃ g, f = g + 1 := ⟨f - 1, by omega⟩
    unfold fX5_beZeros_L16 fX5_beZeros_L16b
    rw [hc, gd_t, e, if_neg (nI_ge (by omega) (by omega)), a1, a2, gd_t, inb_nI (by omega) (by omega), gd_t, ix_nI (by omega), lt_e, show nI j + 1 = nI (j + 1) from nI_1 j]
    obtain ⟨M', e1, e2, e3, e4⟩ := ih g (j + 1) (wr M (k + 1) j 0) (by omega) (by omega) (by rw [wr_c (by omega)]; exact e)
    refine ⟨M', e1, fun q q1 q2 => ?_, fun q hq => ?_, fun a ha => by rw [e4 a ha, wr_c ha]⟩
    · by_cases e : q = j
      · subst e; rw [e3 q (by omega), wr_s]
      · exact e2 q (by omega) q2
    · rw [e3 q (by omega), wr_j (by omega)]
theorem o_beZeros {k n : Nat} (hc : isC layC k 5 = true) (hn : n ≤ aN layC (k + 1)) (M : Mm) : ∃ M', fX5_beZeros k (nI n) M = some ((), M') ∧ M' k 1 = nI n ∧ (∀ q, q < n → M' (k + 1) q = 0) ∧ (∀ a, a ≠ k → a ≠ k + 1 → M' a = M a) := by
  obtain ⟨a1, a2, a3⟩ := c_row hc
  have hFU := FU_big
  unfold fX5_beZeros
  rw [hc, gd_t, a1, a2, gd_t, e_hold, bd_s, lt_e, show hd (nI n) 0 (Int32.ofNat (aN layC (k + 1))) = nI n by
    unfold hd
    rw [if_pos (nI_pos' (by omega)), if_pos (show nI n ≤ Int32.ofNat (aN layC (k + 1)) from nI_le hn (by omega))]]
  obtain ⟨M', e1, e2, e3, e4⟩ := bz_loop hc hn n FU 0 (wr M k 1 (nI n)) (by omega) (by omega) wr_s
  exact ⟨M', e1, by rw [e4 k (by omega), wr_s], fun q hq => e2 q (by omega) hq, fun a h1 h2 => by rw [e4 a h2, wr_c h1]⟩
theorem mz_loop {p : Nat} (hp : p < 4) : ∀ (m f j : Nat) (D : Mm), m < f → j + m = 24 → ∃ D', fX10_sheet_L90 (nI p) f (nI j) D = some (1, D') ∧ (∀ q, j ≤ q → q < 24 → D' 15 (24 * p + q) = 0) ∧ (∀ q, ¬ (24 * p + j ≤ q ∧ q < 24 * p + 24) → D' 15 q = D 15 q) ∧ ∀ a, a ≠ 15 → D' a = D a := by
  intro m
  induction m with
  | zero =>
    intro f j D h1 hj
    obtain ⟨g, rfl⟩ : ∃ g, f = g + 1 := ⟨f - 1, by omega⟩
    unfold fX10_sheet_L90 fX10_sheet_L90b fX10_sheet_B116
    rw [if_pos (show (24 : Int32) ≤ nI j from nI_le (a := 24) (by omega) (by omega))]
    exact ⟨D, rfl, fun q h1 h2 => by omega, fun _ _ => rfl, fun _ _ => rfl⟩
  | succ m ih =>
    intro f j D h1 hj
    obtain ⟨g, rfl⟩ : ∃ g, f = g + 1 := ⟨f - 1, by omega⟩
    unfold fX10_sheet_L90 fX10_sheet_L90b
    rw [if_neg (show ¬ (24 : Int32) ≤ nI j from nI_ge (b := 24) (by omega) (by omega)), show ((24 : Int32) * nI p) + nI j = nI (24 * p + j) by rw [← nI_add, ← pk_mul]; rfl, inb_nI (by omega) (by omega), gd_t, ix_nI (by omega), lt_e, show nI j + 1 = nI (j + 1) from nI_1 j]
    obtain ⟨D', e1, e2, e3, e4⟩ := ih g (j + 1) (wr D 15 (24 * p + j) 0) (by omega) (by omega)
    refine ⟨D', e1, fun q q1 q2 => ?_, fun q hq => ?_, fun a ha => by rw [e4 a ha, wr_c ha]⟩
    · by_cases e : q = j
      · subst e; rw [e3 _ (by omega), wr_s]
      · exact e2 q (by omega) q2
    · rw [e3 q (by omega), wr_j (by omega)]
theorem sheet_go {C D : Mm} (h : Rel C D) {p n : Nat} (hp : p < 4) (hn : n ≤ 24) (b v3 : Int32) (hb : (b = 0 ∧ n = 0) ∨ ((b = 8 ∨ b = 16 ∨ b = 32) ∧ v3 = nI n)) : Op (fX9_sheet_B68 (nI p) b v3 C) (fX10_sheet_B65 (nI p) b v3 D) := by
  have hFU := FU_big
  have hcap : aN layC (161 + 3 * p + 1) = 24 := by
    have := a_plr p hp
    rw [show 162 + 3 * p = 161 + 3 * p + 1 by omega] at this; exact this
  obtain ⟨C', e1, e2, e3, e4⟩ := o_beZeros (k := 161 + 3 * p) (n := n) (c_plr p hp) (by omega) (wr C (160 + 3 * p) 1 b)
  obtain ⟨D', f1, f2, f3, f4⟩ := mz_loop hp 24 FU 0 (wr (wr D 13 p b) 14 p (nI n)) (by omega) (by omega)
  have hrel : Rel C' D' := by
    refine Rel_plates h (fun a ha => by rw [e4 a (by omega) (by omega), wr_c (by omega)]) (fun a h1 h2 h3 h4 => by rw [f4 a h3, wr_c h2, wr_c h1]) (fun i hi => ?_)
    have g13 : D' 13 = wr D 13 p b 13 := by rw [f4 13 (by decide), wr_c (by decide)]
    have g14 : D' 14 = upd (D 14) p (nI n) := by rw [f4 14 (by decide), wr_k, wr_c (by decide)]
    by_cases e : i = p
    · subst e
      rw [g13, wr_s, g14, upd_s, e4 (160 + 3 * i) (by omega) (by omega), wr_s, e2]
      refine ⟨rfl, ?_, rfl, ⟨n, hn, rfl⟩, fun j hj => ?_⟩
      · rcases hb with ⟨z, -⟩ | ⟨z, -⟩
        · exact Or.inl z
        · exact Or.inr z
      · rw [ix_nI (by omega)] at hj
        rw [show 162 + 3 * i = 161 + 3 * i + 1 by omega, e3 j hj, f2 j (by omega) (by omega)]
    · obtain ⟨m, hm, p1, p2, p3, p4, p5⟩ := h.plt hi
      rw [g13, wr_j e, g14, upd_n e, e4 (160 + 3 * i) (by omega) (by omega), wr_c (by omega), e4 (161 + 3 * i) (by omega) (by omega), wr_c (by omega), e4 (162 + 3 * i) (by omega) (by omega), wr_c (by omega)]
      refine ⟨p3, p4, p2.trans p1.symm, ⟨m, hm, p1⟩, fun j hj => ?_⟩
      rw [p1, ix_nI (by omega)] at hj
      rw [f3 _ (by omega), wr_c (by decide), wr_c (by decide)]
      exact p5 j hj
  unfold fX9_sheet_B68 fX10_sheet_B65 fX9_sheet_B96 fX10_sheet_B86
  rw [inb_nI hp (by omega), gd_t, gd_t, ix_nI (by omega), c_plt p hp, gd_t, lt_e, f_plt p hp, c_plr p hp, gd_t, gd_t, lt_e, lt_e, lt_e]
  rw [show nI 0 = (0 : Int32) from rfl] at f1
  rcases hb with ⟨z, z2⟩ | ⟨z, z2⟩
  · subst z2
    rw [show nI 0 = (0 : Int32) from rfl] at e1 f1
    rw [if_pos z, if_pos z, e1, bd_s, f1]
    exact ⟨_, _, _, rfl, rfl, hrel⟩
  · have nz : ¬ b = 0 := by rcases z with rfl | rfl | rfl <;> decide
    rw [if_neg nz, if_neg nz, z2, e1, bd_s, f1]
    exact ⟨_, _, _, rfl, rfl, hrel⟩
theorem op_sheet {C D : Mm} (h : Rel C D) (a b c : Int32) : Op (fX9_sheet a b c C) (fX10_sheet a b c D) := by
  have err : Op (fX9_sheet_B29 C) (fX10_sheet_B29 D) := by
    unfold fX9_sheet_B29 fX10_sheet_B29
    rw [e_ref1, e_err1]
    exact op_err h (by decide) (by decide)
  unfold fX9_sheet fX10_sheet
  rw [e_isPlate, e_isSheet, bd_s, bd_s]
  by_cases hw : wi a 0 3 = true
  · obtain ⟨p, hp, rfl⟩ := wi3 hw
    have go : (b = 8 ∨ b = 16 ∨ b = 32) → Op (fX9_sheet_B36 (nI p) b c C) (fX10_sheet_B35 (nI p) b c D) := fun hb => by
      have nz : ¬ b = 0 := by rcases hb with rfl | rfl | rfl <;> decide
      unfold fX9_sheet_B36 fX10_sheet_B35 fX9_sheet_B51 fX10_sheet_B49
      rw [if_neg nz, if_neg nz, if_neg nz, if_neg nz]
      by_cases h0 : 0 ≤ c
      · rw [if_pos h0, if_pos h0]
        by_cases h24 : c ≤ 24
        · obtain ⟨n, hn, rfl⟩ := wi_in (a := c) (n := 24) (by omega) (by simp only [wi, Bool.and_eq_true, decide_eq_true_eq]; exact ⟨h0, h24⟩)
          rw [if_pos h24, if_pos h24]
          exact sheet_go h hp hn b _ (Or.inr ⟨hb, rfl⟩)
        · rw [if_neg h24, if_neg h24, e_ref1, e_err1]
          exact op_err h (by decide) (by decide)
      · rw [if_neg h0, if_neg h0, e_ref3, e_err3]
        exact op_err h (by decide) (by decide)
    rw [hw, if_pos rfl, if_pos rfl]
    by_cases b0 : b = 0
    · rw [if_pos b0, if_pos b0]
      unfold fX9_sheet_B36 fX10_sheet_B35 fX9_sheet_B51 fX10_sheet_B49
      rw [if_pos b0, if_pos b0, if_pos b0, if_pos b0]
      exact sheet_go h hp (n := 0) (by omega) b c (Or.inl ⟨b0, rfl⟩)
    rw [if_neg b0, if_neg b0]
    by_cases b8 : b = 8
    · rw [if_pos b8, if_pos b8]; exact go (Or.inl b8)
    rw [if_neg b8, if_neg b8]
    by_cases b16 : b = 16
    · rw [if_pos b16, if_pos b16]; exact go (Or.inr (Or.inl b16))
    rw [if_neg b16, if_neg b16]
    by_cases b32 : b = 32
    · rw [if_pos b32, if_pos b32]; exact go (Or.inr (Or.inr b32))
    rw [if_neg b32, if_neg b32]
    exact err
  · rw [if_neg hw, if_neg hw]; exact err
theorem e_isMissing {k : Nat} (hc : isC layC k 4 = true) (M : Mm) : fX4_isMissing k M = some (decide (M k 1 = 0), M) := by
  unfold fX4_isMissing fX4_isMissing_B12
  rw [hc, gd_t]
  by_cases h : M k 1 = 0
  · rw [if_pos h, decide_eq_true h]; rfl
  · rw [if_neg h, decide_eq_false h]; rfl
theorem low8 (v : Int32) : (v <<< ((32 - 8 : Int32) &&& 31)) >>> ((32 - 8 : Int32) &&& 31) = v.toInt8.toInt32 := by
  rw [show ((32 - 8 : Int32) &&& 31) = 24 by decide]
  apply Int32.toBitVec_inj.mp
  show ((v.toBitVec <<< ((24 : Int32).toBitVec.smod 32))).sshiftRight' ((24 : Int32).toBitVec.smod 32) = (v.toBitVec.signExtend 8 : BitVec 8).signExtend 32
  rw [show ((24 : Int32).toBitVec.smod 32) = 24#32 by decide]
  apply BitVec.eq_of_getLsbD_eq
  intro i hi
  simp only [BitVec.sshiftRight', BitVec.getLsbD_sshiftRight, BitVec.getLsbD_signExtend, BitVec.shiftLeft_eq', BitVec.getLsbD_shiftLeft, BitVec.getLsbD_setWidth, BitVec.msb_eq_getLsbD_last, show (24#32).toNat = 24 from rfl]
  by_cases h8 : i < 8
  · have h3 : ¬ 32 ≤ i := by omega
    have h4 : 24 + i < 32 := by omega
    have h5 : ¬ 24 + i < 24 := by omega
    simp [hi, h8, h3, h4, h5]
  · have h3 : ¬ 32 ≤ i := by omega
    simp [hi, h8, h3]; omega
theorem low16 (v : Int32) : (v <<< ((32 - 16 : Int32) &&& 31)) >>> ((32 - 16 : Int32) &&& 31) = v.toInt16.toInt32 := by
  rw [show ((32 - 16 : Int32) &&& 31) = 16 by decide]
  apply Int32.toBitVec_inj.mp
  show ((v.toBitVec <<< ((16 : Int32).toBitVec.smod 32))).sshiftRight' ((16 : Int32).toBitVec.smod 32) = (v.toBitVec.signExtend 16 : BitVec 16).signExtend 32
  rw [show ((16 : Int32).toBitVec.smod 32) = 16#32 by decide]
  apply BitVec.eq_of_getLsbD_eq
  intro i hi
  simp only [BitVec.sshiftRight', BitVec.getLsbD_sshiftRight, BitVec.getLsbD_signExtend, BitVec.shiftLeft_eq', BitVec.getLsbD_shiftLeft, BitVec.getLsbD_setWidth, BitVec.msb_eq_getLsbD_last, show (16#32).toNat = 16 from rfl]
  by_cases h8 : i < 16
  · have h3 : ¬ 32 ≤ i := by omega
    have h4 : 16 + i < 32 := by omega
    have h5 : ¬ 16 + i < 16 := by omega
    simp [hi, h8, h3, h4, h5]
  · have h3 : ¬ 32 ≤ i := by omega
    simp [hi, h8, h3]; omega
theorem low32 (v : Int32) : (v <<< ((32 - 32 : Int32) &&& 31)) >>> ((32 - 32 : Int32) &&& 31) = v := by
  rw [show ((32 - 32 : Int32) &&& 31) = 0 by decide]
  apply Int32.toBitVec_inj.mp
  show ((v.toBitVec <<< ((0 : Int32).toBitVec.smod 32))).sshiftRight' ((0 : Int32).toBitVec.smod 32) = v.toBitVec
  rw [show ((0 : Int32).toBitVec.smod 32) = 0#32 by decide]
  simp [BitVec.sshiftRight']
theorem e_low {k : Nat} (hc : isC layC k 4 = true) (M : Mm) (v : Int32) (hb : M k 1 = 8 ∨ M k 1 = 16 ∨ M k 1 = 32) : fX4_lowestBits k v M = some ((v <<< ((32 - M k 1) &&& 31)) >>> ((32 - M k 1) &&& 31), M) := by
  unfold fX4_lowestBits
  rw [hc, gd_t, lt_e]
  rcases hb with e | e | e
  · rw [e, if_pos rfl, low8]
  · rw [e, if_neg (by decide), if_pos rfl, low16]
  · rw [e, if_neg (by decide), if_neg (by decide), low32]
theorem r_put {C D : Mm} (h : Rel C D) {p j : Nat} (hp : p < 4) (hj : D 14 p = nI j ∨ True) {q : Nat} (hq : q < 24) (v : Int32) : Rel (wr C (162 + 3 * p) q v) (wr D 15 (24 * p + q) v) := by
  refine Rel_plates h (fun a ha => wr_c (by omega)) (fun a h1 h2 h3 h4 => wr_c h3) (fun i hi => ?_)
  obtain ⟨m, hm, p1, p2, p3, p4, p5⟩ := h.plt hi
  rw [wr_c (show 160 + 3 * i ≠ 162 + 3 * p by omega), wr_c (show 161 + 3 * i ≠ 162 + 3 * p by omega), wr_c (show 13 ≠ 15 by omega), wr_c (show 14 ≠ 15 by omega)]
  refine ⟨p3, p4, p2.trans p1.symm, ⟨m, hm, p1⟩, fun t ht => ?_⟩
  rw [p1, ix_nI (by omega)] at ht
  rw [wr_at, wr_at]
  by_cases e : i = p ∧ t = q
  · rw [if_pos (by omega), if_pos (by omega)]
  · rw [if_neg (by omega), if_neg (by omega)]; exact p5 t ht
theorem op_put {C D : Mm} (h : Rel C D) (a b v : Int32) : Op (fX9_put a b v C) (fX10_put a b v D) := by
  unfold fX9_put fX10_put
  rw [e_isPlate, e_isSheet, bd_s, bd_s]
  by_cases hw : wi a 0 3 = true
  · obtain ⟨p, hp, rfl⟩ := wi3 hw
    obtain ⟨m, hm, p1, p2, p3, p4, p5⟩ := h.plt hp
    rw [hw, if_pos rfl, if_pos rfl, inb_nI hp (by omega), gd_t, gd_t, ix_nI (by omega), c_plt p hp, gd_t, e_isMissing (c_plt p hp), bd_s, p3]
    by_cases h0 : D 13 p = 0
    · rw [decide_eq_true h0, if_pos rfl, if_pos h0, e_ref2, e_err2]
      exact op_err h (by decide) (by decide)
    · have hb : C (160 + 3 * p) 1 = 8 ∨ C (160 + 3 * p) 1 = 16 ∨ C (160 + 3 * p) 1 = 32 := by
        rw [p3]; rcases p4 with z | z
        · exact absurd z h0
        · exact z
      rw [decide_eq_false h0, if_neg (by decide), if_neg h0, e_low (c_plt p hp) C v hb, bd_s, f_plt p hp, c_plr p hp, gd_t, e_in, bd_s, p1]
      obtain ⟨a1, a2, a3⟩ := c_row (c_plr p hp)
      have hcap : aN layC (161 + 3 * p + 1) = 24 := by
        have := a_plr p hp
        rw [show 162 + 3 * p = 161 + 3 * p + 1 by omega] at this; exact this
      unfold fX5_change fX9_put_B65
      rw [c_plr p hp, gd_t, e_isWithin, bd_s, p2, a1, a2, gd_t, hcap]
      by_cases hk : wi b 0 (nI m - 1) = true
      · obtain ⟨q, hq, rfl⟩ := (wiL (by omega)).mp hk
        rw [hk, if_pos rfl, if_pos rfl, inb_nI (by omega) (by omega), gd_t, ix_nI (by omega), lt_e, bd_s, if_pos rfl, lt_e, show ((24 : Int32) * nI p) + nI q = nI (24 * p + q) by rw [← nI_add, ← pk_mul]; rfl, inb_nI (by omega) (by omega), gd_t, ix_nI (by omega), lt_e, p3]
        have := r_put h hp (j := 0) (Or.inr trivial) (q := q) (by omega) ((v <<< ((32 - D 13 p) &&& 31)) >>> ((32 - D 13 p) &&& 31))
        rw [show 162 + 3 * p = 161 + 3 * p + 1 by omega] at this
        exact ⟨_, _, _, rfl, rfl, this⟩
      · rw [if_neg hk, if_neg hk, bd_s, if_neg (by decide), e_ref1, e_err1]
        exact op_err h (by decide) (by decide)
  · rw [if_neg hw, if_neg hw, e_ref1, e_err1]
    exact op_err h (by decide) (by decide)
-- move
theorem e_has {k n : Nat} (hc : isC layC k 5 = true) {M : Mm} (hn : M k 1 = nI n) (hn24 : n ≤ 24) (a b : Int32) : fX5_has k a b M = some (decide (0 ≤ a.toInt ∧ 0 ≤ b.toInt ∧ a.toInt + b.toInt ≤ n), M) := by
  have e0 : (0 : Int32).toInt = 0 := by decide
  have en : (nI n).toInt = n := nI_toInt (by omega)
  unfold fX5_has fX5_has_B30 fX5_has_B31
  rw [hc, gd_t, e_isWithin, bd_s, hn, show isb 1 = true by decide, show isb 0 = true by decide]
  simp only [gd_t]
  by_cases h1 : wi a 0 (nI n) = true
  · rw [if_pos h1, e_isWithin, bd_s]
    simp only [wi, Bool.and_eq_true, decide_eq_true_eq, Int32.le_iff_toInt_le, e0, en] at h1
    have es : (nI n - a).toInt = n - a.toInt := by
      rw [Int32.toInt_sub, en]
      rw [Int.bmod_eq_of_le] <;> omega
    by_cases h2 : wi b 0 (nI n - a) = true
    · rw [if_pos h2]
      simp only [wi, Bool.and_eq_true, decide_eq_true_eq, Int32.le_iff_toInt_le, e0, es] at h2
      rw [decide_eq_true (show 0 ≤ a.toInt ∧ 0 ≤ b.toInt ∧ a.toInt + b.toInt ≤ n by omega)]; rfl
    · rw [if_neg h2]
      simp only [wi, Bool.and_eq_true, decide_eq_true_eq, Int32.le_iff_toInt_le, e0, es] at h2
      rw [decide_eq_false (show ¬ (0 ≤ a.toInt ∧ 0 ≤ b.toInt ∧ a.toInt + b.toInt ≤ n) by omega)]; rfl
  · rw [if_neg h1]
    simp only [wi, Bool.and_eq_true, decide_eq_true_eq, Int32.le_iff_toInt_le, e0, en] at h1
    rw [decide_eq_false (show ¬ (0 ≤ a.toInt ∧ 0 ≤ b.toInt ∧ a.toInt + b.toInt ≤ n) by omega)]; rfl
theorem mv1_loop {p x n : Nat} (q y : Int32) (hp : p < 4) (hx : x + n ≤ 24) : ∀ (m f j : Nat) (D : Mm), m < f → j + m = n → ∃ D', fX10_move_L115 (nI p) (nI x) q y (nI n) f (nI j) D = fX10_move_B149 q y (nI n) D' ∧ (∀ t, j ≤ t → t < n → D' 16 t = D 15 (24 * p + x + t)) ∧ (∀ t, t < j → D' 16 t = D 16 t) ∧ ∀ a, a ≠ 16 → D' a = D a := by
  intro m
  induction m with
  | zero =>
    intro f j D h1 hj
    obtain ⟨g, rfl⟩ : ∃ g, f = g + 1 := ⟨f - 1, by omega⟩
    unfold fX10_move_L115 fX10_move_L115b
    rw [if_pos (nI_le (by omega) (by omega))]
    exact ⟨D, rfl, fun q h1 h2 => by omega, fun _ _ => rfl, fun _ _ => rfl⟩
  | succ m ih =>
    intro f j D h1 hj
    obtain ⟨g, rfl⟩ : ∃ g, f = g + 1 := ⟨f - 1, by omega⟩
    unfold fX10_move_L115 fX10_move_L115b
    rw [if_neg (show ¬ nI n ≤ nI j from nI_ge (by omega) (by omega)), show (((24 : Int32) * nI p) + nI x) + nI j = nI (24 * p + x + j) by rw [← nI_add, ← nI_add, ← pk_mul]; rfl, inb_nI (by omega) (by omega), gd_t, inb_nI (by omega) (by omega), gd_t, ix_nI (by omega), ix_nI (by omega), lt_e, show nI j + 1 = nI (j + 1) from nI_1 j]
    obtain ⟨D', e1, e2, e3, e4⟩ := ih g (j + 1) (wr D 16 j (D 15 (24 * p + x + j))) (by omega) (by omega)
    refine ⟨D', e1, fun t t1 t2 => ?_, fun t ht => ?_, fun a ha => by rw [e4 a ha, wr_c ha]⟩
    · by_cases e : t = j
      · subst e; rw [e3 t (by omega), wr_s]
      · rw [e2 t (by omega) t2, wr_c (by decide)]
    · rw [e3 t (by omega), wr_j (by omega)]
theorem mv2_loop {p x n : Nat} (hp : p < 4) (hx : x + n ≤ 24) : ∀ (m f j : Nat) (D : Mm), m < f → j + m = n → ∃ D', fX10_move_L152 (nI p) (nI x) (nI n) f (nI j) D = some (nI n, D') ∧ (∀ t, j ≤ t → t < n → D' 15 (24 * p + x + t) = D 16 t) ∧ (∀ t, ¬ (24 * p + x + j ≤ t ∧ t < 24 * p + x + n) → D' 15 t = D 15 t) ∧ ∀ a, a ≠ 15 → D' a = D a := by
  intro m
  induction m with
  | zero =>
    intro f j D h1 hj
    obtain ⟨g, rfl⟩ : ∃ g, f = g + 1 := ⟨f - 1, by omega⟩
    unfold fX10_move_L152 fX10_move_L152b fX10_move_B187
    rw [if_pos (nI_le (by omega) (by omega))]
    exact ⟨D, rfl, fun q h1 h2 => by omega, fun _ _ => rfl, fun _ _ => rfl⟩
  | succ m ih =>
    intro f j D h1 hj
    obtain ⟨g, rfl⟩ : ∃ g, f = g + 1 := ⟨f - 1, by omega⟩
    unfold fX10_move_L152 fX10_move_L152b
    rw [if_neg (show ¬ nI n ≤ nI j from nI_ge (by omega) (by omega)), show (((24 : Int32) * nI p) + nI x) + nI j = nI (24 * p + x + j) by rw [← nI_add, ← nI_add, ← pk_mul]; rfl, inb_nI (by omega) (by omega), gd_t, inb_nI (by omega) (by omega), gd_t, ix_nI (by omega), ix_nI (by omega), lt_e, show nI j + 1 = nI (j + 1) from nI_1 j]
    obtain ⟨D', e1, e2, e3, e4⟩ := ih g (j + 1) (wr D 15 (24 * p + x + j) (D 16 j)) (by omega) (by omega)
    refine ⟨D', e1, fun t t1 t2 => ?_, fun t ht => ?_, fun a ha => by rw [e4 a ha, wr_c ha]⟩
    · by_cases e : t = j
      · subst e; rw [e3 _ (by omega), wr_s]
      · rw [e2 t (by omega) t2, wr_c (by decide)]
    · rw [e3 t (by omega), wr_j (by omega)]
theorem i32_nat {x : Int32} (h : 0 ≤ x.toInt) : x = nI x.toInt.toNat := by
  apply Int32.toInt_inj.mp
  have h2 := Int32.toInt_lt x
  rw [nI_toInt (by omega)]
  omega
def CB (a n : Int32) (m : Nat) : Prop := 0 ≤ a.toInt ∧ 0 ≤ n.toInt ∧ a.toInt + n.toInt ≤ m
theorem bring_bad {k k2 m m2 : Nat} {C : Mm} (hc : isC layC k 5 = true) (hc2 : isC layC k2 5 = true) (h1 : C k 1 = nI m) (h2 : C k2 1 = nI m2) (hm : m ≤ 24) (hm2 : m2 ≤ 24) {y x n : Int32} (hb : ¬ (CB y n m ∧ CB x n m2)) : fX5_bring k y k2 x n C = some (false, C) := by
  unfold fX5_bring fX5_bring_B20
  rw [hc, gd_t, e_has hc h1 hm, bd_s]
  unfold CB at hb
  by_cases g1 : 0 ≤ y.toInt ∧ 0 ≤ n.toInt ∧ y.toInt + n.toInt ≤ m
  · rw [decide_eq_true g1, if_pos rfl, hc2, gd_t, e_has hc2 h2 hm2, bd_s, decide_eq_false (fun g2 => hb ⟨g1, g2⟩), if_neg (by decide)]
  · rw [decide_eq_false g1, if_neg (by decide)]
theorem bring_ok {k k2 m m2 y x n : Nat} {C : Mm} (hc : isC layC k 5 = true) (hc2 : isC layC k2 5 = true) (h1 : C k 1 = nI m) (h2 : C k2 1 = nI m2) (hm : m ≤ 24) (hm2 : m2 ≤ 24) (hk : m ≤ aN layC (k + 1)) (hk2 : m2 ≤ aN layC (k2 + 1)) (hy : y + n ≤ m) (hx : x + n ≤ m2) : fX5_bring k (nI y) k2 (nI x) (nI n) C = some (true, cpm C (k2 + 1) x (k + 1) y n) := by
  obtain ⟨a1, a2, a3⟩ := c_row hc
  obtain ⟨b1, b2, b3⟩ := c_row hc2
  have ey : (nI y).toInt = y := nI_toInt (by omega)
  have ex : (nI x).toInt = x := nI_toInt (by omega)
  have en : (nI n).toInt = n := nI_toInt (by omega)
  unfold fX5_bring
  rw [hc, gd_t, e_has hc h1 hm, bd_s, decide_eq_true (show 0 ≤ (nI y).toInt ∧ 0 ≤ (nI n).toInt ∧ (nI y).toInt + (nI n).toInt ≤ m by omega), if_pos rfl, hc2, gd_t, e_has hc2 h2 hm2, bd_s, decide_eq_true (show 0 ≤ (nI x).toInt ∧ 0 ≤ (nI n).toInt ∧ (nI x).toInt + (nI n).toInt ≤ m2 by omega), if_pos rfl, a1, a2, b1, b2, gd_t, gd_t]
  have c1 : ¬ nI x < 0 := nI_pos (by omega)
  have c2 : ¬ nI y < 0 := nI_pos (by omega)
  have c3 : ¬ nI n < 0 := nI_pos (by omega)
  rw [show (!decide (nI x < 0) && !decide (nI y < 0) && !decide (nI n < 0) && decide ((nI x).toNatClampNeg + (nI n).toNatClampNeg ≤ aN layC (k2 + 1)) && decide ((nI y).toNatClampNeg + (nI n).toNatClampNeg ≤ aN layC (k + 1))) = true by
    rw [nI_clamp (show x < 2 ^ 31 by omega), nI_clamp (show y < 2 ^ 31 by omega), nI_clamp (show n < 2 ^ 31 by omega)]
    simp [c1, c2, c3]; omega, gd_t, lt_e, ix_nI (by omega), ix_nI (by omega), ix_nI (by omega)]
theorem op_move {C D : Mm} (h : Rel C D) (a x b y n : Int32) : Op (fX9_move a x b y n C) (fX10_move a x b y n D) := by
  have hFU := FU_big
  have err1 : Op (fX9_move_B14 C) (fX10_move_B14 D) := by
    unfold fX9_move_B14 fX10_move_B14
    rw [e_ref1, e_err1]; exact op_err h (by decide) (by decide)
  have err2 : Op (fX9_move_B53 C) (fX10_move_B38 D) := by
    unfold fX9_move_B53 fX10_move_B38
    rw [e_ref2, e_err2]; exact op_err h (by decide) (by decide)
  have e0 : (0 : Int32).toInt = 0 := by decide
  unfold fX9_move fX10_move
  rw [e_isPlate, e_isSheet, bd_s, bd_s]
  by_cases hw : wi a 0 3 = true
  · obtain ⟨p, hp, rfl⟩ := wi3 hw
    rw [hw, if_pos rfl, if_pos rfl, e_isPlate, e_isSheet, bd_s, bd_s]
    by_cases hw2 : wi b 0 3 = true
    · obtain ⟨q, hq, rfl⟩ := wi3 hw2
      obtain ⟨m, hm, p1, p2, p3, p4, p5⟩ := h.plt hp
      obtain ⟨m2, hm2, q1, q2, q3, q4, q5⟩ := h.plt hq
      rw [hw2, if_pos rfl, if_pos rfl, inb_nI hp (by omega), gd_t, gd_t, inb_nI hq (by omega), gd_t, gd_t, ix_nI (by omega), ix_nI (by omega), c_plt p hp, gd_t, e_isMissing (c_plt p hp), bd_s, p3]
      by_cases h0 : D 13 p = 0
      · rw [decide_eq_true h0, if_pos rfl, if_pos h0]; exact err2
      rw [decide_eq_false h0, if_neg (by decide), if_neg h0, c_plt q hq, gd_t, e_isMissing (c_plt q hq), bd_s, q3]
      by_cases h1 : D 13 q = 0
      · rw [decide_eq_true h1, if_pos rfl, if_pos h1]; exact err2
      rw [decide_eq_false h1, if_neg (by decide), if_neg h1, p3]
      by_cases h2 : D 13 p = D 13 q
      · rw [if_pos h2, if_pos h2, f_plt q hq, f_plt p hp, c_plr q hq, gd_t, p1, q1]
        have em : (nI m).toInt = m := nI_toInt (by omega)
        have em2 : (nI m2).toInt = m2 := nI_toInt (by omega)
        have bad : ¬ (CB y n m2 ∧ CB x n m) → Op (bd (fX5_bring (161 + 3 * q) y (161 + 3 * p) x n C) fun r18 M19 => if r18 = true then fX9_move_B112 n M19 else bd (fX9_refuse (-1000000001 : Int32) M19) fun r20 M21 => fX9_move_B112 r20 M21) (fX10_move_B106 D) := fun hb => by
          rw [bring_bad (c_plr q hq) (c_plr p hp) q2 p2 hm2 hm hb, bd_s, if_neg (by decide)]
          unfold fX9_move_B112 fX10_move_B106
          rw [e_ref1, e_err1]
          exact op_err h (by decide) (by decide)
        unfold CB at bad
        by_cases c1 : n < 0
        · rw [if_pos c1]
          exact bad (by rw [Int32.lt_iff_toInt_lt, e0] at c1; omega)
        rw [if_neg c1]
        rw [Int32.lt_iff_toInt_lt, e0] at c1
        by_cases c2 : x < 0
        · rw [if_pos c2]
          exact bad (by rw [Int32.lt_iff_toInt_lt, e0] at c2; omega)
        rw [if_neg c2]
        rw [Int32.lt_iff_toInt_lt, e0] at c2
        by_cases c3 : y < 0
        · rw [if_pos c3]
          exact bad (by rw [Int32.lt_iff_toInt_lt, e0] at c3; omega)
        rw [if_neg c3]
        rw [Int32.lt_iff_toInt_lt, e0] at c3
        have es : (nI m - n).toInt = m - n.toInt := by
          have := Int32.toInt_lt n
          rw [Int32.toInt_sub, em]
          rw [Int.bmod_eq_of_le] <;> omega
        have es2 : (nI m2 - n).toInt = m2 - n.toInt := by
          have := Int32.toInt_lt n
          rw [Int32.toInt_sub, em2]
          rw [Int.bmod_eq_of_le] <;> omega
        by_cases c4 : nI m - n < x
        · rw [if_pos c4]
          exact bad (by rw [Int32.lt_iff_toInt_lt, es] at c4; omega)
        rw [if_neg c4]
        rw [Int32.lt_iff_toInt_lt, es] at c4
        by_cases c5 : y ≤ nI m2 - n
        · rw [if_pos c5]
          rw [Int32.le_iff_toInt_le, es2] at c5
          clear bad es es2
          have ex := i32_nat (x := x) (by omega)
          have ey := i32_nat (x := y) (by omega)
          have en := i32_nat (x := n) (by omega)
          have bx : x.toInt.toNat + n.toInt.toNat ≤ m := by omega
          have bY : y.toInt.toNat + n.toInt.toNat ≤ m2 := by omega
          rw [ex, ey, en]
          generalize x.toInt.toNat = x' at bx
          generalize y.toInt.toNat = y' at bY
          generalize n.toInt.toNat = n' at bx bY
          have hcp : aN layC (161 + 3 * p + 1) = 24 := by
            have := a_plr p hp
            rw [show 162 + 3 * p = 161 + 3 * p + 1 by omega] at this; exact this
          have hcq : aN layC (161 + 3 * q + 1) = 24 := by
            have := a_plr q hq
            rw [show 162 + 3 * q = 161 + 3 * q + 1 by omega] at this; exact this
          obtain ⟨D1, s1, s2, s3, s4⟩ := mv1_loop (p := p) (x := x') (n := n') (nI q) (nI y') hp (by omega) n' FU 0 D (by omega) (by omega)
          obtain ⟨D2, t1, t2, t3, t4⟩ := mv2_loop (p := q) (x := y') (n := n') hq (by omega) n' FU 0 D1 (by omega) (by omega)
          rw [show nI 0 = (0 : Int32) from rfl] at s1 t1
          rw [bring_ok (c_plr q hq) (c_plr p hp) q2 p2 hm2 hm (by omega) (by omega) bY bx, bd_s, if_pos rfl, s1]
          unfold fX9_move_B112 fX10_move_B149
          rw [t1]
          refine ⟨_, _, _, rfl, rfl, ?_⟩
          refine Rel_plates h (fun a ha => cpm_c (by omega)) (fun a h1 h2 h3 h4 => by rw [t4 a h3, s4 a h4]) (fun i hi => ?_)
          obtain ⟨mi, hmi, i1, i2, i3, i4, i5⟩ := h.plt hi
          rw [cpm_c (by omega), cpm_c (by omega), t4 13 (by decide), s4 13 (by decide), t4 14 (by decide), s4 14 (by decide)]
          refine ⟨i3, i4, i2.trans i1.symm, ⟨mi, hmi, i1⟩, fun j hj => ?_⟩
          rw [i1, ix_nI (by omega)] at hj
          by_cases e : i = q
          · subst e
            rw [show 162 + 3 * i = 161 + 3 * i + 1 by omega, cpm_k]
            unfold va_cpy
            by_cases hin : y' ≤ j ∧ j < y' + n'
            · rw [if_pos hin]
              have := t2 (j - y') (by omega) (by omega)
              rw [show 24 * i + y' + (j - y') = 24 * i + j by omega, s2 (j - y') (by omega) (by omega)] at this
              rw [this, show 161 + 3 * p + 1 = 162 + 3 * p by omega, p5 _ (by omega)]
              exact congrArg _ (by omega)
            · rw [if_neg hin, t3 _ (by omega), s4 15 (by decide), show 161 + 3 * i + 1 = 162 + 3 * i by omega]
              exact i5 j hj
          · rw [cpm_c (by omega), t3 _ (by omega), s4 15 (by decide)]
            exact i5 j hj
        · rw [if_neg c5]
          exact bad (by rw [Int32.le_iff_toInt_le, es2] at c5; omega)
      · rw [if_neg h2, if_neg h2, e_ref5, e_err5]
        exact op_err h (by decide) (by decide)
    · rw [if_neg hw2, if_neg hw2]; exact err1
  · rw [if_neg hw, if_neg hw]; exact err1
-- casts
theorem casts_loop {p : Nat} (hp : p < 4) : ∀ (m f1 f2 j : Nat) (C D : Mm), m < f1 → m < f2 → j + m = 8 → Rel C D → Op (fX9_casts_L48 (161 + 3 * p) f1 (nI (3 * j)) (nI j) C) (fX10_casts_L24 (nI (24 * p)) (nI p) f2 (nI j) D) := by
  intro m
  induction m with
  | zero =>
    intro f1 f2 j C D h1 h2 hj h
    obtain ⟨g1, rfl⟩ : ∃ g, f1 = g + 1 := ⟨f1 - 1, by omega⟩
    obtain ⟨g2, rfl⟩ : ∃ g, f2 = g + 1 := ⟨f2 - 1, by omega⟩
    obtain ⟨m, hm, p1, p2, p3, p4, p5⟩ := h.plt hp
    unfold fX9_casts_L48 fX10_casts_L24 fX9_casts_L48b fX10_casts_L24b fX9_casts_B133 fX10_casts_B131
    rw [c_plr p hp, gd_t, p2, show nI (3 * j) + 3 = nI (3 * j + 3) by rw [← nI_add]; rfl, if_pos (nI_lt (by omega) (by omega)), inb_nI hp (by omega), gd_t, ix_nI (by omega), p1, show ((3 : Int32) * nI j) + 2 = nI (3 * j + 2) by rw [← nI_add, ← pk_mul]; rfl, if_pos (nI_le (by omega) (by omega))]
    exact ⟨_, _, _, rfl, rfl, h⟩
  | succ m ih =>
    intro f1 f2 j C D h1 h2 hj h
    obtain ⟨g1, rfl⟩ : ∃ g, f1 = g + 1 := ⟨f1 - 1, by omega⟩
    obtain ⟨g2, rfl⟩ : ∃ g, f2 = g + 1 := ⟨f2 - 1, by omega⟩
    obtain ⟨n, hn, p1, p2, p3, p4, p5⟩ := h.plt hp
    have hcap : aN layC (161 + 3 * p + 1) = 24 := by
      have := a_plr p hp
      rw [show 162 + 3 * p = 161 + 3 * p + 1 by omega] at this; exact this
    unfold fX9_casts_L48 fX10_casts_L24 fX9_casts_L48b fX10_casts_L24b fX9_casts_B91 fX9_casts_B133 fX10_casts_B131
    rw [c_plr p hp, gd_t, p2, show nI (3 * j) + 3 = nI (3 * j + 3) by rw [← nI_add]; rfl, inb_nI hp (by omega), gd_t, ix_nI (by omega), p1, show ((3 : Int32) * nI j) + 2 = nI (3 * j + 2) by rw [← nI_add, ← pk_mul]; rfl]
    by_cases hend : n < 3 * j + 3
    · rw [if_pos (nI_lt hend (by omega)), if_pos (nI_le (by omega) (by omega))]
      exact ⟨_, _, _, rfl, rfl, h⟩
    · have hat : ∀ t, t < n → ∀ M : Mm, M = C → fX5_at (161 + 3 * p) (nI t) M = some (D 15 (24 * p + t), M) := fun t ht M hM => by
        subst hM
        rw [e_at (n := n) (c_plr p hp) p2 (by omega) (by omega), if_pos ht, show 161 + 3 * p + 1 = 162 + 3 * p by omega, p5 t ht]
      rw [if_neg (nI_nlt (by omega) (by omega)), if_neg (nI_ge (by omega) (by omega)), show nI (3 * j) + 1 = nI (3 * j + 1) from nI_1 _, show nI (3 * j) + 2 = nI (3 * j + 2) by rw [← nI_add]; rfl, hat _ (by omega) C rfl, bd_s, hat _ (by omega) C rfl, bd_s, hat _ (by omega) C rfl, bd_s]
      rw [show nI (24 * p) + (3 : Int32) * nI j = nI (24 * p + 3 * j) by rw [← nI_add, show (3 : Int32) = nI 3 from rfl, pk_mul 3 j], show nI (24 * p + 3 * j) + 1 = nI (24 * p + (3 * j + 1)) by rw [nI_1]; rfl, show nI (24 * p + 3 * j) + 2 = nI (24 * p + (3 * j + 2)) by rw [show (2 : Int32) = nI 2 from rfl, nI_add]; rfl, inb_nI (by omega) (by omega), gd_t, inb_nI (by omega) (by omega), gd_t, inb_nI (by omega) (by omega), gd_t, ix_nI (by omega), ix_nI (by omega), ix_nI (by omega)]
      rcases two_cast h (D 15 (24 * p + 3 * j)) (D 15 (24 * p + (3 * j + 1))) (D 15 (24 * p + (3 * j + 2))) with ⟨t1, t2, r, C', D', t3, t4, t5⟩ | ⟨k, k1, k6, t1, t2⟩
      · rw [t1, t2, bd_s, bd_s, if_pos rfl, if_pos rfl, hat _ (by omega) C rfl, bd_s, hat _ (by omega) C rfl, bd_s, hat _ (by omega) C rfl, bd_s, t3, t4, bd_s, bd_s, show nI (3 * j + 3) = nI (3 * (j + 1)) from rfl, show nI j + 1 = nI (j + 1) from nI_1 j]
        exact ih g1 g2 (j + 1) C' D' (by omega) (by omega) (by omega) t5
      · have q := lowk ⟨k, by omega⟩
        have q2 := q.2.1 k1
        have q3 := q.2.2 k1
        dsimp only at q2 q3
        have q4 : ¬ nI k = 0 := fun e => q3 (by rw [e]; exact Int32.le_refl 0)
        rw [t1, t2, bd_s, bd_s, if_neg q2, if_neg q4]
        exact ⟨_, _, _, rfl, rfl, h⟩
theorem e_lacks (a : Int32) (M : Mm) : fX10_lacks a M = some (if wi a 0 3 = true then (if M 13 (ix a) = 0 then 2 else 0) else 1, M) := by
  unfold fX10_lacks fX10_lacks_B25
  rw [e_isSheet, bd_s]
  by_cases h : wi a 0 3 = true
  · obtain ⟨p, hp, rfl⟩ := wi3 h
    rw [if_pos h, if_pos h, inb_nI hp (by omega), gd_t]
    by_cases h0 : M 13 (ix (nI p)) = 0
    · rw [if_pos h0, if_pos h0]
    · rw [if_neg h0, if_neg h0]
  · rw [if_neg h, if_neg h]
theorem op_casts {C D : Mm} (h : Rel C D) (a : Int32) : Op (fX9_casts a C) (fX10_casts a D) := by
  have hFU := FU_big
  unfold fX9_casts fX10_casts
  rw [e_isPlate, bd_s, e_lacks, bd_s]
  by_cases hw : wi a 0 3 = true
  · obtain ⟨p, hp, rfl⟩ := wi3 hw
    obtain ⟨n, hn, p1, p2, p3, p4, p5⟩ := h.plt hp
    rw [hw, if_pos rfl, if_pos rfl, inb_nI hp (by omega), gd_t, ix_nI (by omega), c_plt p hp, gd_t, e_isMissing (c_plt p hp), bd_s, p3]
    by_cases h0 : D 13 p = 0
    · rw [decide_eq_true h0, if_pos rfl, if_pos h0, if_neg (by decide), e_ref2, e_err2]
      exact op_err h (by decide) (by decide)
    · rw [decide_eq_false h0, if_neg (by decide), if_neg h0, if_pos (by decide), lt_e, f_plt p hp, show (24 : Int32) * nI p = nI (24 * p) by rw [← pk_mul]; rfl]
      exact casts_loop hp 8 FU FU 0 C D (by omega) (by omega) (by omega) h
  · rw [if_neg hw, if_neg hw, if_neg (by decide), e_ref1, e_err1]
    exact op_err h (by decide) (by decide)
