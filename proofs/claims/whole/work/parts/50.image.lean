/-! PURE 21: image, restore. -/
def rc (k k2 : Nat) (C C' : Mm) : Prop := C' k 1 = C k2 1 ∧ ∀ j, j < ix (C k2 1) → C' (k + 1) j = C (k2 + 1) j
theorem o_rc {k k2 n : Nat} {M : Mm} (hc : isC layC k 5 = true) (hc2 : isC layC k2 5 = true) (hn : M k2 1 = nI n) (h1 : n ≤ aN layC (k + 1)) (h2 : n ≤ aN layC (k2 + 1)) (hne : k2 ≠ k) (hne2 : k2 + 1 ≠ k) (hk : n < 2 ^ 31) : ∃ M', fX5_takeFrom k k2 M = some ((), M') ∧ rc k k2 M M' ∧ ∀ a, a ≠ k → a ≠ k + 1 → M' a = M a := by
  refine ⟨_, e_takeFrom hc hc2 hn h1 h2, ⟨?_, fun j hj => ?_⟩, fun a ha hb => ?_⟩
  · rw [cpm_c (by omega), wr_s, hn]
  · rw [hn, ix_nI hk] at hj
    rw [cpm_k]; unfold va_cpy
    rw [if_pos (by omega), wr_c hne2]
    exact congrArg _ (by omega)
  · rw [cpm_c hb, wr_c ha]
theorem c_wrk : ∀ i, i < 8 → isC layC (116 + 2 * i) 5 = true := by decide +kernel
theorem c_pgk : ∀ i, i < 4 → isC layC (97 + 2 * i) 5 = true := by decide +kernel
theorem c_ltk : ∀ i, i < 24 → isC layC (72 + 1 * i) 3 = true := by decide +kernel
theorem a_wrk : ∀ i, i < 8 → aN layC (117 + 2 * i) = 8 := by decide +kernel
theorem a_pgk : ∀ i, i < 4 → aN layC (98 + 2 * i) = 8 := by decide +kernel
/-- the shop at B becomes the one at B2 -/
def CPY (B B2 : Nat) (C C' : Mm) : Prop := (C' B 1 = C B2 1 ∧ C' B 2 = C B2 2 ∧ C' B 3 = C B2 3 ∧ C' B 4 = C B2 4 ∧ C' B 6 = C B2 6 ∧ C' B 12 = C B2 12) ∧ (∀ j, j < 4 → C' (B + 1) j = C (B2 + 1) j) ∧ (∀ j, j < 4 → C' (B + 2) j = C (B2 + 2) j) ∧ (∀ i f, i < 24 → f < 7 → C' (B + 4 + i) f = C (B2 + 4 + i) f) ∧ (∀ p, p < 4 → rc (B + 29 + 2 * p) (B2 + 29 + 2 * p) C C') ∧ (∀ w, w < 8 → rc (B + 48 + 2 * w) (B2 + 48 + 2 * w) C C') ∧ (∀ u, u < 2 → rc (B + 38 + 5 * u) (B2 + 38 + 5 * u) C C') ∧ rc (B + 64) (B2 + 64) C C' ∧ rc (B + 66) (B2 + 66) C C'
theorem CPY.rs {B B2 : Nat} {C C' : Mm} {s : Sx} (hs : SI s) (h : CPY B B2 C C') (hr : RS B2 C s) : RS B C' s := by
  obtain ⟨c1, c2, c3, c4, c5, c6, c7, c8, c9⟩ := h
  obtain ⟨r1, r2, r3, r4, r5, r6, r7, r8, r9⟩ := hr
  obtain ⟨z1, z2, z3, z4, z5, z6, z7⟩ := hs.sz
  have hT := hs.1.2.2.1
  have hQ := hs.1.2.2.2
  refine ⟨?_, fun j hj => (c2 j hj).trans (r2 j hj), fun p hp => (c3 p hp).trans (r3 p hp), fun i f hi hf => (c4 i f (by omega) hf).trans (r4 i f hi hf), fun p hp => ?_, ⟨fun w hw => ?_, fun w hw => ?_⟩, fun u hu => ?_, ?_, ?_⟩
  · unfold RSc at *
    rw [c1.1, c1.2.1, c1.2.2.1, c1.2.2.2.1, c1.2.2.2.2.1, c1.2.2.2.2.2]; exact r1
  · obtain ⟨x1, x2⟩ := c5 p hp
    refine ⟨x1.trans (r5 p hp).1, fun j hj => ?_⟩
    have := x2 j (by rw [(r5 p hp).1]; exact hj)
    rw [show B + 30 + 2 * p = B + 29 + 2 * p + 1 by omega, this, show B2 + 29 + 2 * p + 1 = B2 + 30 + 2 * p by omega]
    exact (r5 p hp).2 j hj
  · obtain ⟨n, hn, e⟩ := r6.1 w hw
    exact ⟨n, hn, (c6 w hw).1.trans e⟩
  · obtain ⟨x1, x2⟩ := c6 w (by omega)
    refine ⟨x1.trans (r6.2 w hw).1, fun j hj => ?_⟩
    have := x2 j (by rw [(r6.2 w hw).1]; exact hj)
    rw [show B + 49 + 2 * w = B + 48 + 2 * w + 1 by omega, this, show B2 + 48 + 2 * w + 1 = B2 + 49 + 2 * w by omega]
    exact (r6.2 w hw).2 j hj
  · obtain ⟨x1, x2⟩ := c7 u hu
    refine ⟨x1.trans (r7 u hu).1, fun j hj => ?_⟩
    have := x2 j (by rw [(r7 u hu).1]; exact hj)
    rw [show B + 39 + 5 * u = B + 38 + 5 * u + 1 by omega, this, show B2 + 38 + 5 * u + 1 = B2 + 39 + 5 * u by omega]
    exact (r7 u hu).2 j hj
  · refine ⟨c8.1.trans r8.1, fun j hj => ?_⟩
    have := c8.2 j (by rw [r8.1]; exact hj)
    rw [show B + 65 = B + 64 + 1 by omega, this]
    exact r8.2 j hj
  · refine ⟨c9.1.trans r9.1, fun j hj => ?_⟩
    have := c9.2 j (by rw [r9.1]; exact hj)
    rw [show B + 67 = B + 66 + 1 by omega, this]
    exact r9.2 j hj
theorem o_takeL {k a : Nat} (hc : isC layC k 3 = true) (hc2 : isC layC a 3 = true) (hne : a ≠ k) (M : Mm) : ∃ M', fX3_takeFrom k a M = some ((), M') ∧ (∀ f, f < 7 → M' k f = M a f) ∧ ∀ b, b ≠ k → M' b = M b := by
  unfold fX3_takeFrom
  rw [hc, hc2, gd_t, gd_t]
  refine ⟨_, rfl, fun f hf => ?_, fun b hb => ?_⟩
  · simp only [lt_e, wr_c hne]
    rcases (show f = 0 ∨ f = 1 ∨ f = 2 ∨ f = 3 ∨ f = 4 ∨ f = 5 ∨ f = 6 by omega) with rfl | rfl | rfl | rfl | rfl | rfl | rfl <;> simp [wr_at]
  · simp only [lt_e, wr_c hb]

theorem cl_68 : ∀ (m f i : Nat) (M : Mm), m < f → i + m = 24 → ∃ M', fX7_takeFrom_68_L78 f (nI i) M = fX7_takeFrom_68_B105 M' ∧ (∀ q, i ≤ q → q < 24 → ∀ f, f < 7 → M' (72 + 1 * q) f = M (4 + 1 * q) f) ∧ ∀ a, ¬ (72 + i ≤ a ∧ a < 96) → M' a = M a := by
  intro m
  induction m with
  | zero =>
    intro f i M h1 hi
    obtain ⟨g, rfl⟩ : ∃ g, f = g + 1 := ⟨f - 1, by omega⟩
    unfold fX7_takeFrom_68_L78 fX7_takeFrom_68_L78b
    rw [if_pos (show (24 : Int32) ≤ nI i from nI_le (a := 24) (by omega) (by omega))]
    exact ⟨M, rfl, fun q h1 h2 => by omega, fun _ _ => rfl⟩
  | succ m ih =>
    intro f i M h1 hi
    obtain ⟨g, rfl⟩ : ∃ g, f = g + 1 := ⟨f - 1, by omega⟩
    obtain ⟨M1, e1, e2, e3⟩ := o_takeL (k := 72 + 1 * i) (a := 4 + 1 * i) (c_ltk i (by omega)) (c_let i (by omega)) (by omega) M
    unfold fX7_takeFrom_68_L78 fX7_takeFrom_68_L78b
    rw [if_neg (show ¬ (24 : Int32) ≤ nI i from nI_ge (b := 24) (by omega) (by omega)), inb_nI (by omega) (by omega), gd_t, ix_nI (by omega), c_ltk i (by omega), gd_t, e1, bd_s, show nI i + 1 = nI (i + 1) from nI_1 i]
    obtain ⟨M', s1, s2, s3⟩ := ih g (i + 1) M1 (by omega) (by omega)
    refine ⟨M', s1, fun q q1 q2 f hf => ?_, fun a ha => ?_⟩
    · by_cases e : q = i
      · subst e; rw [s3 _ (by omega)]; exact e2 f hf
      · rw [s2 q (by omega) q2 f hf, e3 _ (by omega)]
    · rw [s3 a (by omega), e3 a (by omega)]
theorem cp_68 : ∀ (m f i : Nat) (M : Mm), m < f → i + m = 4 → (∀ q, i ≤ q → q < 4 → ∃ n, n ≤ 8 ∧ M (29 + 2 * q) 1 = nI n) → ∃ M', fX7_takeFrom_68_L107 f (nI i) M = fX7_takeFrom_68_B133 M' ∧ (∀ q, i ≤ q → q < 4 → rc (97 + 2 * q) (29 + 2 * q) M M') ∧ ∀ a, ¬ (97 + 2 * i ≤ a ∧ a < 105) → M' a = M a := by
  intro m
  induction m with
  | zero =>
    intro f i M h1 hi hv
    obtain ⟨g, rfl⟩ : ∃ g, f = g + 1 := ⟨f - 1, by omega⟩
    unfold fX7_takeFrom_68_L107 fX7_takeFrom_68_L107b
    rw [if_pos (show (4 : Int32) ≤ nI i from nI_le (a := 4) (by omega) (by omega))]
    exact ⟨M, rfl, fun q h1 h2 => by omega, fun _ _ => rfl⟩
  | succ m ih =>
    intro f i M h1 hi hv
    obtain ⟨g, rfl⟩ : ∃ g, f = g + 1 := ⟨f - 1, by omega⟩
    obtain ⟨n, hn, en⟩ := hv i (Nat.le_refl i) (by omega)
    have a1 := a_pgk i (by omega)
    have a2 := a_pag i (by omega)
    obtain ⟨M1, e1, e2, e3⟩ := o_rc (k := 97 + 2 * i) (k2 := 29 + 2 * i) (n := n) (M := M) (c_pgk i (by omega)) (c_pag i (by omega)) en (by rw [show 97 + 2 * i + 1 = 98 + 2 * i by omega, a1]; exact hn) (by rw [show 29 + 2 * i + 1 = 30 + 2 * i by omega, a2]; exact hn) (by omega) (by omega) (by omega)
    unfold fX7_takeFrom_68_L107 fX7_takeFrom_68_L107b
    rw [if_neg (show ¬ (4 : Int32) ≤ nI i from nI_ge (b := 4) (by omega) (by omega)), inb_nI (by omega) (by omega), gd_t, ix_nI (by omega), c_pgk i (by omega), gd_t, e1, bd_s, show nI i + 1 = nI (i + 1) from nI_1 i]
    obtain ⟨M', s1, s2, s3⟩ := ih g (i + 1) M1 (by omega) (by omega) (fun q q1 q2 => by rw [e3 _ (by omega) (by omega)]; exact hv q (by omega) q2)
    refine ⟨M', s1, fun q q1 q2 => ?_, fun a ha => ?_⟩
    · by_cases e : q = i
      · subst e; unfold rc at *; rw [s3 _ (by omega), s3 _ (by omega)]; exact e2
      · have := s2 q (by omega) q2
        unfold rc at *; rw [e3 (29 + 2 * q) (by omega) (by omega), e3 (29 + 2 * q + 1) (by omega) (by omega)] at this; exact this
    · rw [s3 a (by omega), e3 a (by omega) (by omega)]
theorem cw_68 : ∀ (m f i : Nat) (M : Mm), m < f → i + m = 8 → (∀ q, i ≤ q → q < 8 → ∃ n, n ≤ 8 ∧ M (48 + 2 * q) 1 = nI n) → ∃ M', fX7_takeFrom_68_L135 f (nI i) M = fX7_takeFrom_68_B162 M' ∧ (∀ q, i ≤ q → q < 8 → rc (116 + 2 * q) (48 + 2 * q) M M') ∧ ∀ a, ¬ (116 + 2 * i ≤ a ∧ a < 132) → M' a = M a := by
  intro m
  induction m with
  | zero =>
    intro f i M h1 hi hv
    obtain ⟨g, rfl⟩ : ∃ g, f = g + 1 := ⟨f - 1, by omega⟩
    unfold fX7_takeFrom_68_L135 fX7_takeFrom_68_L135b
    rw [if_pos (show (8 : Int32) ≤ nI i from nI_le (a := 8) (by omega) (by omega))]
    exact ⟨M, rfl, fun q h1 h2 => by omega, fun _ _ => rfl⟩
  | succ m ih =>
    intro f i M h1 hi hv
    obtain ⟨g, rfl⟩ : ∃ g, f = g + 1 := ⟨f - 1, by omega⟩
    obtain ⟨n, hn, en⟩ := hv i (Nat.le_refl i) (by omega)
    have a1 := a_wrk i (by omega)
    have a2 := a_wrd i (by omega)
    obtain ⟨M1, e1, e2, e3⟩ := o_rc (k := 116 + 2 * i) (k2 := 48 + 2 * i) (n := n) (M := M) (c_wrk i (by omega)) (c_wrd i (by omega)) en (by rw [show 116 + 2 * i + 1 = 117 + 2 * i by omega, a1]; exact hn) (by rw [show 48 + 2 * i + 1 = 49 + 2 * i by omega, a2]; exact hn) (by omega) (by omega) (by omega)
    unfold fX7_takeFrom_68_L135 fX7_takeFrom_68_L135b
    rw [if_neg (show ¬ (8 : Int32) ≤ nI i from nI_ge (b := 8) (by omega) (by omega)), inb_nI (by omega) (by omega), gd_t, ix_nI (by omega), c_wrk i (by omega), gd_t, e1, bd_s, show nI i + 1 = nI (i + 1) from nI_1 i]
    obtain ⟨M', s1, s2, s3⟩ := ih g (i + 1) M1 (by omega) (by omega) (fun q q1 q2 => by rw [e3 _ (by omega) (by omega)]; exact hv q (by omega) q2)
    refine ⟨M', s1, fun q q1 q2 => ?_, fun a ha => ?_⟩
    · by_cases e : q = i
      · subst e; unfold rc at *; rw [s3 _ (by omega), s3 _ (by omega)]; exact e2
      · have := s2 q (by omega) q2
        unfold rc at *; rw [e3 (48 + 2 * q) (by omega) (by omega), e3 (48 + 2 * q + 1) (by omega) (by omega)] at this; exact this
    · rw [s3 a (by omega), e3 a (by omega) (by omega)]
theorem o_take_68 {C : Mm} {s : Sx} (hs : SI s) (hr : RS 0 C s) : ∃ C', fX7_takeFrom_68 C = some ((), C') ∧ RS 68 C' s ∧ ∀ a, ¬ (68 ≤ a ∧ a < 136) → C' a = C a := by
  have hFU := FU_big
  obtain ⟨r1, r2, r3, r4, r5, r6, r7, r8, r9⟩ := id hr
  obtain ⟨z1, z2, z3, z4, z5, z6, z7⟩ := hs.sz
  have hT := hs.1.2.2.1
  have hQ := hs.1.2.2.2
  unfold fX7_takeFrom_68
  rw [ix_lit0, ix_lit4]
  simp only [lt_e]
  generalize hM8 : wr _ 68 12 _ = M8
  have b0 : ∀ a, a ≠ 68 → a ≠ 68 + 1 → a ≠ 68 + 2 → M8 a = C a := fun a h0 h1 h2 => by
    rw [← hM8, wr_c h0, wr_c h0, wr_c h0, wr_c h0, wr_c h0, wr_c h0, cpm_c (by omega), cpm_c (by omega)]
  have k2 : ∀ a : Nat, a = 0 → cpm (cpm C 1 0 69 0 4) 2 0 70 0 4 a = C a := fun a ha => by rw [cpm_c (by omega), cpm_c (by omega)]
  have k3 : M8 68 1 = C 0 1 ∧ M8 68 2 = C 0 2 ∧ M8 68 3 = C 0 3 ∧ M8 68 4 = C 0 4 ∧ M8 68 6 = C 0 6 ∧ M8 68 12 = C 0 12 := by
    have := k2 0 rfl
    rw [← hM8]
    refine ⟨?_, ?_, ?_, ?_, ?_, ?_⟩ <;> simp only [wr_at, this, true_and, and_true, reduceCtorEq, if_true, if_false, Nat.reduceEqDiff, and_false, false_and]
  have k4 : ∀ j, j < 4 → M8 69 j = C 1 j := fun j hj => by
    rw [← hM8, wr_c (by decide), wr_c (by decide), wr_c (by decide), wr_c (by decide), wr_c (by decide), wr_c (by decide), cpm_c (by decide), cpm_k]
    unfold va_cpy
    rw [if_pos (by omega)]; exact congrArg _ (by omega)
  have k5 : ∀ j, j < 4 → M8 70 j = C 2 j := fun j hj => by
    rw [← hM8, wr_c (by decide), wr_c (by decide), wr_c (by decide), wr_c (by decide), wr_c (by decide), wr_c (by decide), cpm_k]
    unfold va_cpy
    rw [if_pos (by omega), cpm_c (by decide)]; exact congrArg _ (by omega)
  obtain ⟨Ma, a1, a2, a3⟩ := cl_68 24 FU 0 M8 (by omega) (by omega)
  obtain ⟨Mb, b1, b2, b3⟩ := cp_68 4 FU 0 Ma (by omega) (by omega) (fun q q1 q2 => ⟨nP s q, z5 q q2, by
    rw [a3 _ (by omega), b0 _ (by omega) (by omega) (by omega)]
    have := (r5 q q2).1
    rw [show 0 + 29 + 2 * q = 29 + 2 * q by omega] at this
    rw [this]; exact (hs.pag q2).1⟩)
  obtain ⟨Mc, c1, c2, c3⟩ := cw_68 8 FU 0 Mb (by omega) (by omega) (fun q q1 q2 => by
    rw [b3 _ (by omega), a3 _ (by omega), b0 _ (by omega) (by omega) (by omega)]
    have := r6.1 q q2
    rw [show 0 + 48 + 2 * q = 48 + 2 * q by omega] at this
    exact this)
  have old : ∀ a, ¬ (68 ≤ a ∧ a < 136) → Mc a = C a := fun a ha => by rw [c3 a (by omega), b3 a (by omega), a3 a (by omega), b0 a (by omega) (by omega) (by omega)]
  have e1 := (r7 0 (by omega)).1
  have e2 := (r7 1 (by omega)).1
  rw [show 0 + 38 + 5 * 0 = 38 by omega, hs.2.2.2.2.2.1.1.1] at e1
  rw [show 0 + 38 + 5 * 1 = 43 by omega, hs.2.2.2.2.2.1.2.1] at e2
  obtain ⟨Md, d1, d2, d3⟩ := o_rc (k := 106) (k2 := 38) (n := nX s 0) (M := Mc) (by decide) (by decide) (by rw [old _ (by omega)]; exact e1) (show nX s 0 ≤ 60 from z7 0 (by omega)) (show nX s 0 ≤ 60 from z7 0 (by omega)) (by omega) (by omega) (by have := z7 0 (by omega); omega)
  obtain ⟨Me, f1, f2, f3⟩ := o_rc (k := 111) (k2 := 43) (n := nX s 1) (M := Md) (by decide) (by decide) (by rw [d3 _ (by omega) (by omega), old _ (by omega)]; exact e2) (show nX s 1 ≤ 60 from z7 1 (by omega)) (show nX s 1 ≤ 60 from z7 1 (by omega)) (by omega) (by omega) (by have := z7 1 (by omega); omega)
  obtain ⟨Mf, g1, g2, g3⟩ := o_rc (k := 132) (k2 := 64) (n := nT s) (M := Me) (by decide) (by decide) (by rw [f3 _ (by omega) (by omega), d3 _ (by omega) (by omega), old _ (by omega)]; exact r8.1.trans hT.1) (show nT s ≤ 60 from hT.2) (show nT s ≤ 60 from hT.2) (by omega) (by omega) (by omega)
  obtain ⟨Mg, h1, h2, h3⟩ := o_rc (k := 134) (k2 := 66) (n := nQ s) (M := Mf) (by decide) (by decide) (by rw [g3 _ (by omega) (by omega), f3 _ (by omega) (by omega), d3 _ (by omega) (by omega), old _ (by omega)]; exact r9.1.trans hQ.1) (show nQ s ≤ 24 from hQ.2) (show nQ s ≤ 24 from hQ.2) (by omega) (by omega) (by omega)
  have up : ∀ a, a ≠ 106 → a ≠ 106 + 1 → a ≠ 111 → a ≠ 111 + 1 → a ≠ 132 → a ≠ 132 + 1 → a ≠ 134 → a ≠ 134 + 1 → Mg a = Mc a := fun a x1 x2 x3 x4 x5 x6 x7 x8 => by rw [h3 a x7 x8, g3 a x5 x6, f3 a x3 x4, d3 a x1 x2]
  rw [show nI 0 = (0 : Int32) from rfl] at a1 b1 c1
  rw [a1]
  unfold fX7_takeFrom_68_B105
  rw [b1]
  unfold fX7_takeFrom_68_B133
  rw [c1]
  unfold fX7_takeFrom_68_B162
  rw [d1, bd_s, f1, bd_s, g1, bd_s, h1, bd_s]
  refine ⟨_, rfl, CPY.rs (B2 := 0) (C := C) hs ⟨?_, fun j hj => ?_, fun j hj => ?_, fun i f hi hf => ?_, fun p hp => ?_, fun w hw => ?_, fun u hu => ?_, ?_, ?_⟩ hr, fun a ha => ?_⟩
  · rw [up 68 (by omega) (by omega) (by omega) (by omega) (by omega) (by omega) (by omega) (by omega), c3 _ (by omega), b3 _ (by omega), a3 _ (by omega)]
    exact k3
  · rw [up _ (by omega) (by omega) (by omega) (by omega) (by omega) (by omega) (by omega) (by omega), c3 _ (by omega), b3 _ (by omega), a3 _ (by omega)]
    exact k4 j hj
  · rw [up _ (by omega) (by omega) (by omega) (by omega) (by omega) (by omega) (by omega) (by omega), c3 _ (by omega), b3 _ (by omega), a3 _ (by omega)]
    exact k5 j hj
  · rw [up _ (by omega) (by omega) (by omega) (by omega) (by omega) (by omega) (by omega) (by omega), c3 _ (by omega), b3 _ (by omega)]
    have := a2 i (by omega) hi f hf
    rw [show 68 + 4 + i = 72 + 1 * i by omega, this, b0 _ (by omega) (by omega) (by omega), show 0 + 4 + i = 4 + 1 * i by omega]
  · have := b2 p (by omega) hp
    unfold rc at *
    rw [a3 _ (by omega), a3 _ (by omega), b0 _ (by omega) (by omega) (by omega), b0 _ (by omega) (by omega) (by omega)] at this
    rw [up _ (by omega) (by omega) (by omega) (by omega) (by omega) (by omega) (by omega) (by omega), up (68 + 29 + 2 * p + 1) (by omega) (by omega) (by omega) (by omega) (by omega) (by omega) (by omega) (by omega), c3 _ (by omega), c3 _ (by omega), show 68 + 29 + 2 * p = 97 + 2 * p by omega, show 0 + 29 + 2 * p = 29 + 2 * p by omega]
    exact this
  · have := c2 w (by omega) hw
    unfold rc at *
    rw [b3 _ (by omega), b3 _ (by omega), a3 _ (by omega), a3 _ (by omega), b0 _ (by omega) (by omega) (by omega), b0 _ (by omega) (by omega) (by omega)] at this
    rw [up _ (by omega) (by omega) (by omega) (by omega) (by omega) (by omega) (by omega) (by omega), up (68 + 48 + 2 * w + 1) (by omega) (by omega) (by omega) (by omega) (by omega) (by omega) (by omega) (by omega), show 68 + 48 + 2 * w = 116 + 2 * w by omega, show 0 + 48 + 2 * w = 48 + 2 * w by omega]
    exact this
  · rcases (show u = 0 ∨ u = 1 by omega) with rfl | rfl
    · unfold rc at *
      rw [old _ (by omega), old _ (by omega)] at d2
      rw [h3 _ (by omega) (by omega), h3 _ (by omega) (by omega), g3 _ (by omega) (by omega), g3 _ (by omega) (by omega), f3 _ (by omega) (by omega), f3 _ (by omega) (by omega)]
      exact d2
    · unfold rc at *
      rw [d3 _ (by omega) (by omega), d3 _ (by omega) (by omega), old _ (by omega), old _ (by omega)] at f2
      rw [h3 _ (by omega) (by omega), h3 _ (by omega) (by omega), g3 _ (by omega) (by omega), g3 _ (by omega) (by omega)]
      exact f2
  · unfold rc at *
    rw [f3 _ (by omega) (by omega), f3 _ (by omega) (by omega), d3 _ (by omega) (by omega), d3 _ (by omega) (by omega), old _ (by omega), old _ (by omega)] at g2
    rw [h3 _ (by omega) (by omega), h3 _ (by omega) (by omega)]
    exact g2
  · unfold rc at *
    rw [g3 _ (by omega) (by omega), g3 _ (by omega) (by omega), f3 _ (by omega) (by omega), f3 _ (by omega) (by omega), d3 _ (by omega) (by omega), d3 _ (by omega) (by omega), old _ (by omega), old _ (by omega)] at h2
    exact h2
  · rw [up _ (by omega) (by omega) (by omega) (by omega) (by omega) (by omega) (by omega) (by omega)]; exact old a ha

theorem cl_0 : ∀ (m f i : Nat) (M : Mm), m < f → i + m = 24 → ∃ M', fX7_takeFrom_0_L78 f (nI i) M = fX7_takeFrom_0_B105 M' ∧ (∀ q, i ≤ q → q < 24 → ∀ f, f < 7 → M' (4 + 1 * q) f = M (72 + 1 * q) f) ∧ ∀ a, ¬ (4 + i ≤ a ∧ a < 28) → M' a = M a := by
  intro m
  induction m with
  | zero =>
    intro f i M h1 hi
    obtain ⟨g, rfl⟩ : ∃ g, f = g + 1 := ⟨f - 1, by omega⟩
    unfold fX7_takeFrom_0_L78 fX7_takeFrom_0_L78b
    rw [if_pos (show (24 : Int32) ≤ nI i from nI_le (a := 24) (by omega) (by omega))]
    exact ⟨M, rfl, fun q h1 h2 => by omega, fun _ _ => rfl⟩
  | succ m ih =>
    intro f i M h1 hi
    obtain ⟨g, rfl⟩ : ∃ g, f = g + 1 := ⟨f - 1, by omega⟩
    obtain ⟨M1, e1, e2, e3⟩ := o_takeL (k := 4 + 1 * i) (a := 72 + 1 * i) (c_let i (by omega)) (c_ltk i (by omega)) (by omega) M
    unfold fX7_takeFrom_0_L78 fX7_takeFrom_0_L78b
    rw [if_neg (show ¬ (24 : Int32) ≤ nI i from nI_ge (b := 24) (by omega) (by omega)), inb_nI (by omega) (by omega), gd_t, ix_nI (by omega), c_let i (by omega), gd_t, e1, bd_s, show nI i + 1 = nI (i + 1) from nI_1 i]
    obtain ⟨M', s1, s2, s3⟩ := ih g (i + 1) M1 (by omega) (by omega)
    refine ⟨M', s1, fun q q1 q2 f hf => ?_, fun a ha => ?_⟩
    · by_cases e : q = i
      · subst e; rw [s3 _ (by omega)]; exact e2 f hf
      · rw [s2 q (by omega) q2 f hf, e3 _ (by omega)]
    · rw [s3 a (by omega), e3 a (by omega)]
theorem cp_0 : ∀ (m f i : Nat) (M : Mm), m < f → i + m = 4 → (∀ q, i ≤ q → q < 4 → ∃ n, n ≤ 8 ∧ M (97 + 2 * q) 1 = nI n) → ∃ M', fX7_takeFrom_0_L107 f (nI i) M = fX7_takeFrom_0_B133 M' ∧ (∀ q, i ≤ q → q < 4 → rc (29 + 2 * q) (97 + 2 * q) M M') ∧ ∀ a, ¬ (29 + 2 * i ≤ a ∧ a < 37) → M' a = M a := by
  intro m
  induction m with
  | zero =>
    intro f i M h1 hi hv
    obtain ⟨g, rfl⟩ : ∃ g, f = g + 1 := ⟨f - 1, by omega⟩
    unfold fX7_takeFrom_0_L107 fX7_takeFrom_0_L107b
    rw [if_pos (show (4 : Int32) ≤ nI i from nI_le (a := 4) (by omega) (by omega))]
    exact ⟨M, rfl, fun q h1 h2 => by omega, fun _ _ => rfl⟩
  | succ m ih =>
    intro f i M h1 hi hv
    obtain ⟨g, rfl⟩ : ∃ g, f = g + 1 := ⟨f - 1, by omega⟩
    obtain ⟨n, hn, en⟩ := hv i (Nat.le_refl i) (by omega)
    have a1 := a_pag i (by omega)
    have a2 := a_pgk i (by omega)
    obtain ⟨M1, e1, e2, e3⟩ := o_rc (k := 29 + 2 * i) (k2 := 97 + 2 * i) (n := n) (M := M) (c_pag i (by omega)) (c_pgk i (by omega)) en (by rw [show 29 + 2 * i + 1 = 30 + 2 * i by omega, a1]; exact hn) (by rw [show 97 + 2 * i + 1 = 98 + 2 * i by omega, a2]; exact hn) (by omega) (by omega) (by omega)
    unfold fX7_takeFrom_0_L107 fX7_takeFrom_0_L107b
    rw [if_neg (show ¬ (4 : Int32) ≤ nI i from nI_ge (b := 4) (by omega) (by omega)), inb_nI (by omega) (by omega), gd_t, ix_nI (by omega), c_pag i (by omega), gd_t, e1, bd_s, show nI i + 1 = nI (i + 1) from nI_1 i]
    obtain ⟨M', s1, s2, s3⟩ := ih g (i + 1) M1 (by omega) (by omega) (fun q q1 q2 => by rw [e3 _ (by omega) (by omega)]; exact hv q (by omega) q2)
    refine ⟨M', s1, fun q q1 q2 => ?_, fun a ha => ?_⟩
    · by_cases e : q = i
      · subst e; unfold rc at *; rw [s3 _ (by omega), s3 _ (by omega)]; exact e2
      · have := s2 q (by omega) q2
        unfold rc at *; rw [e3 (97 + 2 * q) (by omega) (by omega), e3 (97 + 2 * q + 1) (by omega) (by omega)] at this; exact this
    · rw [s3 a (by omega), e3 a (by omega) (by omega)]
theorem cw_0 : ∀ (m f i : Nat) (M : Mm), m < f → i + m = 8 → (∀ q, i ≤ q → q < 8 → ∃ n, n ≤ 8 ∧ M (116 + 2 * q) 1 = nI n) → ∃ M', fX7_takeFrom_0_L135 f (nI i) M = fX7_takeFrom_0_B162 M' ∧ (∀ q, i ≤ q → q < 8 → rc (48 + 2 * q) (116 + 2 * q) M M') ∧ ∀ a, ¬ (48 + 2 * i ≤ a ∧ a < 64) → M' a = M a := by
  intro m
  induction m with
  | zero =>
    intro f i M h1 hi hv
    obtain ⟨g, rfl⟩ : ∃ g, f = g + 1 := ⟨f - 1, by omega⟩
    unfold fX7_takeFrom_0_L135 fX7_takeFrom_0_L135b
    rw [if_pos (show (8 : Int32) ≤ nI i from nI_le (a := 8) (by omega) (by omega))]
    exact ⟨M, rfl, fun q h1 h2 => by omega, fun _ _ => rfl⟩
  | succ m ih =>
    intro f i M h1 hi hv
    obtain ⟨g, rfl⟩ : ∃ g, f = g + 1 := ⟨f - 1, by omega⟩
    obtain ⟨n, hn, en⟩ := hv i (Nat.le_refl i) (by omega)
    have a1 := a_wrd i (by omega)
    have a2 := a_wrk i (by omega)
    obtain ⟨M1, e1, e2, e3⟩ := o_rc (k := 48 + 2 * i) (k2 := 116 + 2 * i) (n := n) (M := M) (c_wrd i (by omega)) (c_wrk i (by omega)) en (by rw [show 48 + 2 * i + 1 = 49 + 2 * i by omega, a1]; exact hn) (by rw [show 116 + 2 * i + 1 = 117 + 2 * i by omega, a2]; exact hn) (by omega) (by omega) (by omega)
    unfold fX7_takeFrom_0_L135 fX7_takeFrom_0_L135b
    rw [if_neg (show ¬ (8 : Int32) ≤ nI i from nI_ge (b := 8) (by omega) (by omega)), inb_nI (by omega) (by omega), gd_t, ix_nI (by omega), c_wrd i (by omega), gd_t, e1, bd_s, show nI i + 1 = nI (i + 1) from nI_1 i]
    obtain ⟨M', s1, s2, s3⟩ := ih g (i + 1) M1 (by omega) (by omega) (fun q q1 q2 => by rw [e3 _ (by omega) (by omega)]; exact hv q (by omega) q2)
    refine ⟨M', s1, fun q q1 q2 => ?_, fun a ha => ?_⟩
    · by_cases e : q = i
      · subst e; unfold rc at *; rw [s3 _ (by omega), s3 _ (by omega)]; exact e2
      · have := s2 q (by omega) q2
        unfold rc at *; rw [e3 (116 + 2 * q) (by omega) (by omega), e3 (116 + 2 * q + 1) (by omega) (by omega)] at this; exact this
    · rw [s3 a (by omega), e3 a (by omega) (by omega)]
theorem o_take_0 {C : Mm} {s : Sx} (hs : SI s) (hr : RS 68 C s) : ∃ C', fX7_takeFrom_0 C = some ((), C') ∧ RS 0 C' s ∧ ∀ a, ¬ (0 ≤ a ∧ a < 68) → C' a = C a := by
  have hFU := FU_big
  obtain ⟨r1, r2, r3, r4, r5, r6, r7, r8, r9⟩ := id hr
  obtain ⟨z1, z2, z3, z4, z5, z6, z7⟩ := hs.sz
  have hT := hs.1.2.2.1
  have hQ := hs.1.2.2.2
  unfold fX7_takeFrom_0
  rw [ix_lit0, ix_lit4]
  simp only [lt_e]
  generalize hM8 : wr _ 0 12 _ = M8
  have b0 : ∀ a, a ≠ 0 → a ≠ 0 + 1 → a ≠ 0 + 2 → M8 a = C a := fun a h0 h1 h2 => by
    rw [← hM8, wr_c h0, wr_c h0, wr_c h0, wr_c h0, wr_c h0, wr_c h0, cpm_c (by omega), cpm_c (by omega)]
  have k2 : ∀ a : Nat, a = 68 → cpm (cpm C 69 0 1 0 4) 70 0 2 0 4 a = C a := fun a ha => by rw [cpm_c (by omega), cpm_c (by omega)]
  have k3 : M8 0 1 = C 68 1 ∧ M8 0 2 = C 68 2 ∧ M8 0 3 = C 68 3 ∧ M8 0 4 = C 68 4 ∧ M8 0 6 = C 68 6 ∧ M8 0 12 = C 68 12 := by
    have := k2 68 rfl
    rw [← hM8]
    refine ⟨?_, ?_, ?_, ?_, ?_, ?_⟩ <;> simp only [wr_at, this, true_and, and_true, reduceCtorEq, if_true, if_false, Nat.reduceEqDiff, and_false, false_and]
  have k4 : ∀ j, j < 4 → M8 1 j = C 69 j := fun j hj => by
    rw [← hM8, wr_c (by decide), wr_c (by decide), wr_c (by decide), wr_c (by decide), wr_c (by decide), wr_c (by decide), cpm_c (by decide), cpm_k]
    unfold va_cpy
    rw [if_pos (by omega)]; exact congrArg _ (by omega)
  have k5 : ∀ j, j < 4 → M8 2 j = C 70 j := fun j hj => by
    rw [← hM8, wr_c (by decide), wr_c (by decide), wr_c (by decide), wr_c (by decide), wr_c (by decide), wr_c (by decide), cpm_k]
    unfold va_cpy
    rw [if_pos (by omega), cpm_c (by decide)]; exact congrArg _ (by omega)
  obtain ⟨Ma, a1, a2, a3⟩ := cl_0 24 FU 0 M8 (by omega) (by omega)
  obtain ⟨Mb, b1, b2, b3⟩ := cp_0 4 FU 0 Ma (by omega) (by omega) (fun q q1 q2 => ⟨nP s q, z5 q q2, by
    rw [a3 _ (by omega), b0 _ (by omega) (by omega) (by omega)]
    have := (r5 q q2).1
    rw [show 68 + 29 + 2 * q = 97 + 2 * q by omega] at this
    rw [this]; exact (hs.pag q2).1⟩)
  obtain ⟨Mc, c1, c2, c3⟩ := cw_0 8 FU 0 Mb (by omega) (by omega) (fun q q1 q2 => by
    rw [b3 _ (by omega), a3 _ (by omega), b0 _ (by omega) (by omega) (by omega)]
    have := r6.1 q q2
    rw [show 68 + 48 + 2 * q = 116 + 2 * q by omega] at this
    exact this)
  have old : ∀ a, ¬ (0 ≤ a ∧ a < 68) → Mc a = C a := fun a ha => by rw [c3 a (by omega), b3 a (by omega), a3 a (by omega), b0 a (by omega) (by omega) (by omega)]
  have e1 := (r7 0 (by omega)).1
  have e2 := (r7 1 (by omega)).1
  rw [show 68 + 38 + 5 * 0 = 106 by omega, hs.2.2.2.2.2.1.1.1] at e1
  rw [show 68 + 38 + 5 * 1 = 111 by omega, hs.2.2.2.2.2.1.2.1] at e2
  obtain ⟨Md, d1, d2, d3⟩ := o_rc (k := 38) (k2 := 106) (n := nX s 0) (M := Mc) (by decide) (by decide) (by rw [old _ (by omega)]; exact e1) (show nX s 0 ≤ 60 from z7 0 (by omega)) (show nX s 0 ≤ 60 from z7 0 (by omega)) (by omega) (by omega) (by have := z7 0 (by omega); omega)
  obtain ⟨Me, f1, f2, f3⟩ := o_rc (k := 43) (k2 := 111) (n := nX s 1) (M := Md) (by decide) (by decide) (by rw [d3 _ (by omega) (by omega), old _ (by omega)]; exact e2) (show nX s 1 ≤ 60 from z7 1 (by omega)) (show nX s 1 ≤ 60 from z7 1 (by omega)) (by omega) (by omega) (by have := z7 1 (by omega); omega)
  obtain ⟨Mf, g1, g2, g3⟩ := o_rc (k := 64) (k2 := 132) (n := nT s) (M := Me) (by decide) (by decide) (by rw [f3 _ (by omega) (by omega), d3 _ (by omega) (by omega), old _ (by omega)]; exact r8.1.trans hT.1) (show nT s ≤ 60 from hT.2) (show nT s ≤ 60 from hT.2) (by omega) (by omega) (by omega)
  obtain ⟨Mg, h1, h2, h3⟩ := o_rc (k := 66) (k2 := 134) (n := nQ s) (M := Mf) (by decide) (by decide) (by rw [g3 _ (by omega) (by omega), f3 _ (by omega) (by omega), d3 _ (by omega) (by omega), old _ (by omega)]; exact r9.1.trans hQ.1) (show nQ s ≤ 24 from hQ.2) (show nQ s ≤ 24 from hQ.2) (by omega) (by omega) (by omega)
  have up : ∀ a, a ≠ 38 → a ≠ 38 + 1 → a ≠ 43 → a ≠ 43 + 1 → a ≠ 64 → a ≠ 64 + 1 → a ≠ 66 → a ≠ 66 + 1 → Mg a = Mc a := fun a x1 x2 x3 x4 x5 x6 x7 x8 => by rw [h3 a x7 x8, g3 a x5 x6, f3 a x3 x4, d3 a x1 x2]
  rw [show nI 0 = (0 : Int32) from rfl] at a1 b1 c1
  rw [a1]
  unfold fX7_takeFrom_0_B105
  rw [b1]
  unfold fX7_takeFrom_0_B133
  rw [c1]
  unfold fX7_takeFrom_0_B162
  rw [d1, bd_s, f1, bd_s, g1, bd_s, h1, bd_s]
  refine ⟨_, rfl, CPY.rs (B2 := 68) (C := C) hs ⟨?_, fun j hj => ?_, fun j hj => ?_, fun i f hi hf => ?_, fun p hp => ?_, fun w hw => ?_, fun u hu => ?_, ?_, ?_⟩ hr, fun a ha => ?_⟩
  · rw [up 0 (by omega) (by omega) (by omega) (by omega) (by omega) (by omega) (by omega) (by omega), c3 _ (by omega), b3 _ (by omega), a3 _ (by omega)]
    exact k3
  · rw [up _ (by omega) (by omega) (by omega) (by omega) (by omega) (by omega) (by omega) (by omega), c3 _ (by omega), b3 _ (by omega), a3 _ (by omega)]
    exact k4 j hj
  · rw [up _ (by omega) (by omega) (by omega) (by omega) (by omega) (by omega) (by omega) (by omega), c3 _ (by omega), b3 _ (by omega), a3 _ (by omega)]
    exact k5 j hj
  · rw [up _ (by omega) (by omega) (by omega) (by omega) (by omega) (by omega) (by omega) (by omega), c3 _ (by omega), b3 _ (by omega)]
    have := a2 i (by omega) hi f hf
    rw [show 0 + 4 + i = 4 + 1 * i by omega, this, b0 _ (by omega) (by omega) (by omega), show 68 + 4 + i = 72 + 1 * i by omega]
  · have := b2 p (by omega) hp
    unfold rc at *
    rw [a3 _ (by omega), a3 _ (by omega), b0 _ (by omega) (by omega) (by omega), b0 _ (by omega) (by omega) (by omega)] at this
    rw [up _ (by omega) (by omega) (by omega) (by omega) (by omega) (by omega) (by omega) (by omega), up (0 + 29 + 2 * p + 1) (by omega) (by omega) (by omega) (by omega) (by omega) (by omega) (by omega) (by omega), c3 _ (by omega), c3 _ (by omega), show 0 + 29 + 2 * p = 29 + 2 * p by omega, show 68 + 29 + 2 * p = 97 + 2 * p by omega]
    exact this
  · have := c2 w (by omega) hw
    unfold rc at *
    rw [b3 _ (by omega), b3 _ (by omega), a3 _ (by omega), a3 _ (by omega), b0 _ (by omega) (by omega) (by omega), b0 _ (by omega) (by omega) (by omega)] at this
    rw [up _ (by omega) (by omega) (by omega) (by omega) (by omega) (by omega) (by omega) (by omega), up (0 + 48 + 2 * w + 1) (by omega) (by omega) (by omega) (by omega) (by omega) (by omega) (by omega) (by omega), show 0 + 48 + 2 * w = 48 + 2 * w by omega, show 68 + 48 + 2 * w = 116 + 2 * w by omega]
    exact this
  · rcases (show u = 0 ∨ u = 1 by omega) with rfl | rfl
    · unfold rc at *
      rw [old _ (by omega), old _ (by omega)] at d2
      rw [h3 _ (by omega) (by omega), h3 _ (by omega) (by omega), g3 _ (by omega) (by omega), g3 _ (by omega) (by omega), f3 _ (by omega) (by omega), f3 _ (by omega) (by omega)]
      exact d2
    · unfold rc at *
      rw [d3 _ (by omega) (by omega), d3 _ (by omega) (by omega), old _ (by omega), old _ (by omega)] at f2
      rw [h3 _ (by omega) (by omega), h3 _ (by omega) (by omega), g3 _ (by omega) (by omega), g3 _ (by omega) (by omega)]
      exact f2
  · unfold rc at *
    rw [f3 _ (by omega) (by omega), f3 _ (by omega) (by omega), d3 _ (by omega) (by omega), d3 _ (by omega) (by omega), old _ (by omega), old _ (by omega)] at g2
    rw [h3 _ (by omega) (by omega), h3 _ (by omega) (by omega)]
    exact g2
  · unfold rc at *
    rw [g3 _ (by omega) (by omega), g3 _ (by omega) (by omega), f3 _ (by omega) (by omega), f3 _ (by omega) (by omega), d3 _ (by omega) (by omega), d3 _ (by omega) (by omega), old _ (by omega), old _ (by omega)] at h2
    exact h2
  · rw [up _ (by omega) (by omega) (by omega) (by omega) (by omega) (by omega) (by omega) (by omega)]; exact old a ha

theorem cy_1_2 : ∀ (m f j : Nat) (D : Mm), m < f → j + m = 626 → ∃ D', fX10_carry_1_2_L2 f (nI j) D = some ((), D') ∧ (∀ q, j ≤ q → q < 626 → D' 2 q = D 1 q) ∧ (∀ q, q < j → D' 2 q = D 2 q) ∧ ∀ a, a ≠ 2 → D' a = D a := by
  intro m
  induction m with
  | zero =>
    intro f j D h1 hj
    obtain ⟨g, rfl⟩ : ∃ g, f = g + 1 := ⟨f - 1, by omega⟩
    unfold fX10_carry_1_2_L2 fX10_carry_1_2_L2b fX10_carry_1_2_B21
    rw [if_pos (show (626 : Int32) ≤ nI j from nI_le (a := 626) (by omega) (by omega))]
    exact ⟨D, rfl, fun q h1 h2 => by omega, fun _ _ => rfl, fun _ _ => rfl⟩
  | succ m ih =>
    intro f j D h1 hj
    obtain ⟨g, rfl⟩ : ∃ g, f = g + 1 := ⟨f - 1, by omega⟩
    unfold fX10_carry_1_2_L2 fX10_carry_1_2_L2b
    rw [if_neg (show ¬ (626 : Int32) ≤ nI j from nI_ge (b := 626) (by omega) (by omega)), inb_nI (by omega) (by omega), gd_t, ix_nI (by omega), lt_e, show nI j + 1 = nI (j + 1) from nI_1 j]
    obtain ⟨D', e1, e2, e3, e4⟩ := ih g (j + 1) (wr D 2 j (D 1 j)) (by omega) (by omega)
    refine ⟨D', e1, fun q q1 q2 => ?_, fun q hq => ?_, fun a ha => by rw [e4 a ha, wr_c ha]⟩
    · by_cases e : q = j
      · subst e; rw [e3 q (by omega), wr_s]
      · rw [e2 q (by omega) q2, wr_c (by decide)]
    · rw [e3 q (by omega), wr_j (by omega)]
theorem e_cy_1_2 (D : Mm) : ∃ D', fX10_carry_1_2 D = some ((), D') ∧ EqS (D' 2) (D 1) ∧ ∀ a, a ≠ 2 → D' a = D a := by
  obtain ⟨D', e1, e2, e3, e4⟩ := cy_1_2 626 FU 0 D (by have := FU_big; omega) (by omega)
  exact ⟨D', e1, fun q hq => e2 q (by omega) hq, e4⟩

theorem cy_2_1 : ∀ (m f j : Nat) (D : Mm), m < f → j + m = 626 → ∃ D', fX10_carry_2_1_L2 f (nI j) D = some ((), D') ∧ (∀ q, j ≤ q → q < 626 → D' 1 q = D 2 q) ∧ (∀ q, q < j → D' 1 q = D 1 q) ∧ ∀ a, a ≠ 1 → D' a = D a := by
  intro m
  induction m with
  | zero =>
    intro f j D h1 hj
    obtain ⟨g, rfl⟩ : ∃ g, f = g + 1 := ⟨f - 1, by omega⟩
    unfold fX10_carry_2_1_L2 fX10_carry_2_1_L2b fX10_carry_2_1_B21
    rw [if_pos (show (626 : Int32) ≤ nI j from nI_le (a := 626) (by omega) (by omega))]
    exact ⟨D, rfl, fun q h1 h2 => by omega, fun _ _ => rfl, fun _ _ => rfl⟩
  | succ m ih =>
    intro f j D h1 hj
    obtain ⟨g, rfl⟩ : ∃ g, f = g + 1 := ⟨f - 1, by omega⟩
    unfold fX10_carry_2_1_L2 fX10_carry_2_1_L2b
    rw [if_neg (show ¬ (626 : Int32) ≤ nI j from nI_ge (b := 626) (by omega) (by omega)), inb_nI (by omega) (by omega), gd_t, ix_nI (by omega), lt_e, show nI j + 1 = nI (j + 1) from nI_1 j]
    obtain ⟨D', e1, e2, e3, e4⟩ := ih g (j + 1) (wr D 1 j (D 2 j)) (by omega) (by omega)
    refine ⟨D', e1, fun q q1 q2 => ?_, fun q hq => ?_, fun a ha => by rw [e4 a ha, wr_c ha]⟩
    · by_cases e : q = j
      · subst e; rw [e3 q (by omega), wr_s]
      · rw [e2 q (by omega) q2, wr_c (by decide)]
    · rw [e3 q (by omega), wr_j (by omega)]
theorem e_cy_2_1 (D : Mm) : ∃ D', fX10_carry_2_1 D = some ((), D') ∧ EqS (D' 1) (D 2) ∧ ∀ a, a ≠ 1 → D' a = D a := by
  obtain ⟨D', e1, e2, e3, e4⟩ := cy_2_1 626 FU 0 D (by have := FU_big; omega) (by omega)
  exact ⟨D', e1, fun q hq => e2 q (by omega) hq, e4⟩

theorem cy_1_3 : ∀ (m f j : Nat) (D : Mm), m < f → j + m = 626 → ∃ D', fX10_carry_1_3_L2 f (nI j) D = some ((), D') ∧ (∀ q, j ≤ q → q < 626 → D' 3 q = D 1 q) ∧ (∀ q, q < j → D' 3 q = D 3 q) ∧ ∀ a, a ≠ 3 → D' a = D a := by
  intro m
  induction m with
  | zero =>
    intro f j D h1 hj
    obtain ⟨g, rfl⟩ : ∃ g, f = g + 1 := ⟨f - 1, by omega⟩
    unfold fX10_carry_1_3_L2 fX10_carry_1_3_L2b fX10_carry_1_3_B21
    rw [if_pos (show (626 : Int32) ≤ nI j from nI_le (a := 626) (by omega) (by omega))]
    exact ⟨D, rfl, fun q h1 h2 => by omega, fun _ _ => rfl, fun _ _ => rfl⟩
  | succ m ih =>
    intro f j D h1 hj
    obtain ⟨g, rfl⟩ : ∃ g, f = g + 1 := ⟨f - 1, by omega⟩
    unfold fX10_carry_1_3_L2 fX10_carry_1_3_L2b
    rw [if_neg (show ¬ (626 : Int32) ≤ nI j from nI_ge (b := 626) (by omega) (by omega)), inb_nI (by omega) (by omega), gd_t, ix_nI (by omega), lt_e, show nI j + 1 = nI (j + 1) from nI_1 j]
    obtain ⟨D', e1, e2, e3, e4⟩ := ih g (j + 1) (wr D 3 j (D 1 j)) (by omega) (by omega)
    refine ⟨D', e1, fun q q1 q2 => ?_, fun q hq => ?_, fun a ha => by rw [e4 a ha, wr_c ha]⟩
    · by_cases e : q = j
      · subst e; rw [e3 q (by omega), wr_s]
      · rw [e2 q (by omega) q2, wr_c (by decide)]
    · rw [e3 q (by omega), wr_j (by omega)]
theorem e_cy_1_3 (D : Mm) : ∃ D', fX10_carry_1_3 D = some ((), D') ∧ EqS (D' 3) (D 1) ∧ ∀ a, a ≠ 3 → D' a = D a := by
  obtain ⟨D', e1, e2, e3, e4⟩ := cy_1_3 626 FU 0 D (by have := FU_big; omega) (by omega)
  exact ⟨D', e1, fun q hq => e2 q (by omega) hq, e4⟩

theorem cy_3_1 : ∀ (m f j : Nat) (D : Mm), m < f → j + m = 626 → ∃ D', fX10_carry_3_1_L2 f (nI j) D = some ((), D') ∧ (∀ q, j ≤ q → q < 626 → D' 1 q = D 3 q) ∧ (∀ q, q < j → D' 1 q = D 1 q) ∧ ∀ a, a ≠ 1 → D' a = D a := by
  intro m
  induction m with
  | zero =>
    intro f j D h1 hj
    obtain ⟨g, rfl⟩ : ∃ g, f = g + 1 := ⟨f - 1, by omega⟩
    unfold fX10_carry_3_1_L2 fX10_carry_3_1_L2b fX10_carry_3_1_B21
    rw [if_pos (show (626 : Int32) ≤ nI j from nI_le (a := 626) (by omega) (by omega))]
    exact ⟨D, rfl, fun q h1 h2 => by omega, fun _ _ => rfl, fun _ _ => rfl⟩
  | succ m ih =>
    intro f j D h1 hj
    obtain ⟨g, rfl⟩ : ∃ g, f = g + 1 := ⟨f - 1, by omega⟩
    unfold fX10_carry_3_1_L2 fX10_carry_3_1_L2b
    rw [if_neg (show ¬ (626 : Int32) ≤ nI j from nI_ge (b := 626) (by omega) (by omega)), inb_nI (by omega) (by omega), gd_t, ix_nI (by omega), lt_e, show nI j + 1 = nI (j + 1) from nI_1 j]
    obtain ⟨D', e1, e2, e3, e4⟩ := ih g (j + 1) (wr D 1 j (D 3 j)) (by omega) (by omega)
    refine ⟨D', e1, fun q q1 q2 => ?_, fun q hq => ?_, fun a ha => by rw [e4 a ha, wr_c ha]⟩
    · by_cases e : q = j
      · subst e; rw [e3 q (by omega), wr_s]
      · rw [e2 q (by omega) q2, wr_c (by decide)]
    · rw [e3 q (by omega), wr_j (by omega)]
theorem e_cy_3_1 (D : Mm) : ∃ D', fX10_carry_3_1 D = some ((), D') ∧ EqS (D' 1) (D 3) ∧ ∀ a, a ≠ 1 → D' a = D a := by
  obtain ⟨D', e1, e2, e3, e4⟩ := cy_3_1 626 FU 0 D (by have := FU_big; omega) (by omega)
  exact ⟨D', e1, fun q hq => e2 q (by omega) hq, e4⟩

theorem cy_1_11 : ∀ (m f j : Nat) (D : Mm), m < f → j + m = 626 → ∃ D', fX10_carry_1_11_L2 f (nI j) D = some ((), D') ∧ (∀ q, j ≤ q → q < 626 → D' 11 q = D 1 q) ∧ (∀ q, q < j → D' 11 q = D 11 q) ∧ ∀ a, a ≠ 11 → D' a = D a := by
  intro m
  induction m with
  | zero =>
    intro f j D h1 hj
    obtain ⟨g, rfl⟩ : ∃ g, f = g + 1 := ⟨f - 1, by omega⟩
    unfold fX10_carry_1_11_L2 fX10_carry_1_11_L2b fX10_carry_1_11_B21
    rw [if_pos (show (626 : Int32) ≤ nI j from nI_le (a := 626) (by omega) (by omega))]
    exact ⟨D, rfl, fun q h1 h2 => by omega, fun _ _ => rfl, fun _ _ => rfl⟩
  | succ m ih =>
    intro f j D h1 hj
    obtain ⟨g, rfl⟩ : ∃ g, f = g + 1 := ⟨f - 1, by omega⟩
    unfold fX10_carry_1_11_L2 fX10_carry_1_11_L2b
    rw [if_neg (show ¬ (626 : Int32) ≤ nI j from nI_ge (b := 626) (by omega) (by omega)), inb_nI (by omega) (by omega), gd_t, ix_nI (by omega), lt_e, show nI j + 1 = nI (j + 1) from nI_1 j]
    obtain ⟨D', e1, e2, e3, e4⟩ := ih g (j + 1) (wr D 11 j (D 1 j)) (by omega) (by omega)
    refine ⟨D', e1, fun q q1 q2 => ?_, fun q hq => ?_, fun a ha => by rw [e4 a ha, wr_c ha]⟩
    · by_cases e : q = j
      · subst e; rw [e3 q (by omega), wr_s]
      · rw [e2 q (by omega) q2, wr_c (by decide)]
    · rw [e3 q (by omega), wr_j (by omega)]
theorem e_cy_1_11 (D : Mm) : ∃ D', fX10_carry_1_11 D = some ((), D') ∧ EqS (D' 11) (D 1) ∧ ∀ a, a ≠ 11 → D' a = D a := by
  obtain ⟨D', e1, e2, e3, e4⟩ := cy_1_11 626 FU 0 D (by have := FU_big; omega) (by omega)
  exact ⟨D', e1, fun q hq => e2 q (by omega) hq, e4⟩

theorem cy_11_1 : ∀ (m f j : Nat) (D : Mm), m < f → j + m = 626 → ∃ D', fX10_carry_11_1_L2 f (nI j) D = some ((), D') ∧ (∀ q, j ≤ q → q < 626 → D' 1 q = D 11 q) ∧ (∀ q, q < j → D' 1 q = D 1 q) ∧ ∀ a, a ≠ 1 → D' a = D a := by
  intro m
  induction m with
  | zero =>
    intro f j D h1 hj
    obtain ⟨g, rfl⟩ : ∃ g, f = g + 1 := ⟨f - 1, by omega⟩
    unfold fX10_carry_11_1_L2 fX10_carry_11_1_L2b fX10_carry_11_1_B21
    rw [if_pos (show (626 : Int32) ≤ nI j from nI_le (a := 626) (by omega) (by omega))]
    exact ⟨D, rfl, fun q h1 h2 => by omega, fun _ _ => rfl, fun _ _ => rfl⟩
  | succ m ih =>
    intro f j D h1 hj
    obtain ⟨g, rfl⟩ : ∃ g, f = g + 1 := ⟨f - 1, by omega⟩
    unfold fX10_carry_11_1_L2 fX10_carry_11_1_L2b
    rw [if_neg (show ¬ (626 : Int32) ≤ nI j from nI_ge (b := 626) (by omega) (by omega)), inb_nI (by omega) (by omega), gd_t, ix_nI (by omega), lt_e, show nI j + 1 = nI (j + 1) from nI_1 j]
    obtain ⟨D', e1, e2, e3, e4⟩ := ih g (j + 1) (wr D 1 j (D 11 j)) (by omega) (by omega)
    refine ⟨D', e1, fun q q1 q2 => ?_, fun q hq => ?_, fun a ha => by rw [e4 a ha, wr_c ha]⟩
    · by_cases e : q = j
      · subst e; rw [e3 q (by omega), wr_s]
      · rw [e2 q (by omega) q2, wr_c (by decide)]
    · rw [e3 q (by omega), wr_j (by omega)]
theorem e_cy_11_1 (D : Mm) : ∃ D', fX10_carry_11_1 D = some ((), D') ∧ EqS (D' 1) (D 11) ∧ ∀ a, a ≠ 1 → D' a = D a := by
  obtain ⟨D', e1, e2, e3, e4⟩ := cy_11_1 626 FU 0 D (by have := FU_big; omega) (by omega)
  exact ⟨D', e1, fun q hq => e2 q (by omega) hq, e4⟩

theorem op_image {C D : Mm} (h : Rel C D) : Op (fX9_image C) (fX10_image D) := by
  obtain ⟨h1, h2, h3, h4, h5, h6⟩ := id h
  obtain ⟨C', e1, e2, e3⟩ := o_take_68 h1 h2
  obtain ⟨D', f1, f2, f3⟩ := e_cy_1_2 D
  unfold fX9_image fX10_image
  rw [e1, f1, bd_s, bd_s, lt_e, lt_e, wr_s, wr_s, e3 173 (by omega), f3 0 (by omega), h3.1]
  refine ⟨_, _, _, rfl, rfl, ?_⟩
  have eD1 : wr D' 0 3 (D 0 3 + 1) 1 = D 1 := by rw [wr_c (by decide), f3 1 (by decide)]
  have eD2 : wr D' 0 3 (D 0 3 + 1) 2 = D' 2 := wr_c (by decide)
  have cE : ∀ a, a ≠ 173 → (a < 68 ∨ 136 ≤ a) → wr C' 173 2 (D 0 3 + 1) a = C a := fun a ha hb => by rw [wr_c ha, e3 a (by omega)]
  have hs2 := SI_congr f2.sy h1
  refine ⟨by rw [eD1]; exact h1, by rw [eD1]; exact RS_frame h1 (fun a ha => cE a (by unfold shc at ha; omega) (by unfold shc at ha; omega)) h2, ⟨by rw [wr_s, wr_s], fun _ => ?_⟩, fun k k1 k2 => ?_, ?_, fun i hi => ?_⟩
  · rw [eD2]
    exact ⟨hs2, RS_congr f2.sy h1 (RS_frame h1 (fun a ha => wr_c (by unfold shc at ha; omega)) e2)⟩
  · rw [cE 172 (by omega) (by omega), wr_c (by decide), f3 4 (by decide)]; exact h4 k k1 k2
  · unfold RT at *
    rw [cE 157 (by omega) (by omega), cE 158 (by omega) (by omega), wr_j (by decide), wr_c (by decide), f3 0 (by decide), f3 12 (by decide)]; exact h5
  · rw [cE _ (by omega) (by omega), cE (161 + 3 * i) (by omega) (by omega), cE (162 + 3 * i) (by omega) (by omega), wr_c (by decide), wr_c (by decide), wr_c (by decide), f3 13 (by decide), f3 14 (by decide), f3 15 (by decide)]; exact h6 i hi
theorem op_restore {C D : Mm} (h : Rel C D) : Op (fX9_restore C) (fX10_restore D) := by
  obtain ⟨h1, h2, h3, h4, h5, h6⟩ := id h
  unfold fX9_restore fX10_restore
  rw [h3.1]
  by_cases h0 : D 0 3 = 0
  · rw [if_pos h0, if_pos h0, e_ref2, e_err2]
    exact op_err h (by decide) (by decide)
  · rw [if_neg h0, if_neg h0]
    obtain ⟨k1, k2⟩ := h3.2 h0
    obtain ⟨C', e1, e2, e3⟩ := o_take_0 k1 k2
    obtain ⟨D', f1, f2, f3⟩ := e_cy_2_1 D
    have hs := SI_congr f2.sy k1
    have hr := RS_congr f2.sy k1 e2
    rw [e1, f1, bd_s, bd_s, ix_lit2, hr.1.1]
    exact ⟨_, _, _, rfl, rfl, Rel_now h hs hr (fun a ha => e3 a (by omega)) ⟨f3 2 (by decide), f3 4 (by decide), f3 12 (by decide), f3 13 (by decide), f3 14 (by decide), f3 15 (by decide), by rw [f3 0 (by decide)], by rw [f3 0 (by decide)]⟩⟩
