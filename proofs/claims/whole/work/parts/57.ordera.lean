/-! PURE 28: order, first part: each page goes its own way. -/
def itW (s : Sx) : Nat → (Nat → Int32) → Nat → Int32
  | 0, g => g
  | k + 1, g => itW s k (stL s false g)
theorem itW_cg {s : Sx} : ∀ (k : Nat) (g g2 : Nat → Int32), (∀ f, f < 7 → g f = g2 f) → ∀ f, f < 7 → itW s k g f = itW s k g2 f
  | 0, _, _, h => h
  | k + 1, _, _, h => itW_cg k _ _ (stL_g h)
theorem itW_add {s : Sx} : ∀ (a b : Nat) (g : Nat → Int32), itW s b (itW s a g) = itW s (a + b) g
  | 0, b, g => by rw [Nat.zero_add]; rfl
  | a + 1, b, g => by
    rw [show a + 1 + b = (a + b) + 1 by omega]
    exact itW_add a b (stL s false g)
/-- clear sheets of m passes -/
def cF (s : Sx) (n : Nat) : Nat → (Nat → Nat → Int32) → Int32 → Nat
  | 0, _, _ => 0
  | m + 1, gs, sh => (if mnS s gs sh n < 3 then 0 else 1) + cF s n m (fun t => stL s true (gs t)) (sh + 1)
theorem cF_cg {s : Sx} {n : Nat} : ∀ (m : Nat) (gs gs2 : Nat → Nat → Int32) (sh : Int32), (∀ t, t < n → ∀ f, f < 7 → gs t f = gs2 t f) → cF s n m gs sh = cF s n m gs2 sh
  | 0, _, _, _, _ => rfl
  | m + 1, gs, gs2, sh, h => by
    simp only [cF, mnS_cg (n := n) h n (Nat.le_refl n), cF_cg m _ _ (sh + 1) (fun t ht => stL_g (h t ht))]
theorem cF_le {s : Sx} {n : Nat} : ∀ (m : Nat) (gs : Nat → Nat → Int32) (sh : Int32), cF s n m gs sh ≤ m
  | 0, _, _ => Nat.le_refl 0
  | m + 1, gs, sh => by
    have := cF_le (s := s) (n := n) m (fun t => stL s true (gs t)) (sh + 1)
    simp only [cF]
    split <;> omega
def ct (s : Sx) (v p t : Nat) : Nat := cF s (nP s p) v (fun j => itW s (t * v) (gS s (pl s p j))) (s (181 + 10 * p))
theorem ct_le {s : Sx} {v p t : Nat} : ct s v p t ≤ v := cF_le v _ _
-- the class
theorem c_tw_loop {s : Sx} (ht : TX s) {n t v : Nat} (hb : t * v ≤ 999) {sh : Int32} : ∀ (m f j : Nat) (C : Mm) (gs : Nat → Nat → Int32), m < f → j + m = t * v → AC C s n gs sh → ∃ C', fX6_clearInTurn_L11 (nI t) (nI v) f (nI j) C = fX6_clearInTurn_B32 (nI v) C' ∧ AC C' s n (fun i => itW s m (gs i)) sh ∧ ScA C C' := by
  intro m
  induction m with
  | zero =>
    intro f j C gs h1 hj h
    obtain ⟨g, rfl⟩ : ∃ g, f = g + 1 := ⟨f - 1, by omega⟩
    unfold fX6_clearInTurn_L11 fX6_clearInTurn_L11b
    rw [pk_mul, if_pos (nI_le (by omega) (by omega))]
    exact ⟨C, rfl, h, ScA.rf C⟩
  | succ m ih =>
    intro f j C gs h1 hj h
    obtain ⟨g, rfl⟩ : ∃ g, f = g + 1 := ⟨f - 1, by omega⟩
    obtain ⟨C1, e1, e2, e3⟩ := c_wait ht h
    unfold fX6_clearInTurn_L11 fX6_clearInTurn_L11b
    rw [pk_mul, if_neg (show ¬ nI (t * v) ≤ nI j from nI_ge (by omega) (by omega)), e1, bd_s, show nI j + 1 = nI (j + 1) from nI_1 j]
    obtain ⟨C', s1, s2, s3⟩ := ih g (j + 1) C1 _ (by omega) (by omega) e2
    exact ⟨C', s1, s2, e3.tr s3⟩
theorem c_tc_loop {s : Sx} (ht : TX s) {n v : Nat} (hv : v ≤ 99) : ∀ (m f j a : Nat) (C : Mm) (gs : Nat → Nat → Int32) (sh : Int32), m < f → j + m = v → AC C s n gs sh → ∃ C', fX6_clearInTurn_L38 (nI v) f (nI j) (nI a) C = some (nI (a + cF s n m gs sh), C') ∧ ScA C C' := by
  intro m
  induction m with
  | zero =>
    intro f j a C gs sh h1 hj h
    obtain ⟨g, rfl⟩ : ∃ g, f = g + 1 := ⟨f - 1, by omega⟩
    unfold fX6_clearInTurn_L38 fX6_clearInTurn_L38b fX6_clearInTurn_B78
    rw [if_pos (nI_le (by omega) (by omega))]
    exact ⟨C, rfl, ScA.rf C⟩
  | succ m ih =>
    intro f j a C gs sh h1 hj h
    obtain ⟨g, rfl⟩ : ∃ g, f = g + 1 := ⟨f - 1, by omega⟩
    obtain ⟨C1, e1, e2⟩ := c_seen ht h
    obtain ⟨C2, f1, f2, f3⟩ := c_pass ht (h.sc e2)
    unfold fX6_clearInTurn_L38 fX6_clearInTurn_L38b fX6_clearInTurn_B62
    rw [if_neg (show ¬ nI v ≤ nI j from nI_ge (by omega) (by omega)), e1, bd_s, lt_e, lt_e, f1, bd_s, bd_s, show nI j + 1 = nI (j + 1) from nI_1 j]
    by_cases hlt : mnS s gs sh n < 3
    · obtain ⟨C', s1, s2⟩ := ih g (j + 1) a C2 _ _ (by omega) (by omega) f2
      rw [if_pos hlt, Int32.add_zero, s1]
      refine ⟨C', ?_, (e2.sa.tr f3).tr s2⟩
      simp only [cF, if_pos hlt, Nat.zero_add]
    · obtain ⟨C', s1, s2⟩ := ih g (j + 1) (a + 1) C2 _ _ (by omega) (by omega) f2
      rw [if_neg hlt, nI_1, s1]
      refine ⟨C', ?_, (e2.sa.tr f3).tr s2⟩
      simp only [cF, if_neg hlt]
      rw [Nat.add_assoc]
theorem c_turn {s : Sx} (hs : SI s) {p t v : Nat} (hp : p < 4) (ht : t < 4) (hv : v ≤ 20) {C : Mm} (hc : RV C s) : ∃ C', fX6_clearInTurn (nI p) (nI t) (nI v) C = some (nI (ct s v p t), C') ∧ ScA C C' := by
  have hFU := FU_big
  have hb : t * v ≤ 60 := by
    have : t * v ≤ 3 * 20 := Nat.mul_le_mul (by omega) hv
    omega
  obtain ⟨C1, e1, e2, e3⟩ := c_startp hs hp hc
  obtain ⟨C2, f1, f2, f3⟩ := c_tw_loop hs.tx (t := t) (v := v) (by omega) (t * v) FU 0 C1 _ (by omega) (by omega) e2
  obtain ⟨C3, g1, g2⟩ := c_tc_loop hs.tx (v := v) (by omega) v FU 0 0 C2 _ _ (by omega) (by omega) f2
  unfold fX6_clearInTurn
  rw [show nI 0 = (0 : Int32) from rfl] at f1 g1
  rw [e1, bd_s, f1]
  unfold fX6_clearInTurn_B32
  rw [g1, Nat.zero_add]
  exact ⟨C3, rfl, (e3.tr f3).tr g2⟩
-- the reference
theorem m_oth_loop {s0 : Sx} (h0 : SI s0) {q : Nat} (hq : q < 4) (q15 : Int32 → Int32 → Mm → Option (Int32 × Mm)) (q26 : Int32 → Int32 → Mm → Option (Int32 × Mm)) (v2 v4 v1 : Int32) (ps : Nat) (hps : ps < 4) {H : Nat → Int32} : ∀ (m f j : Nat) (D : Mm) (G : Nat → Nat → Int32), m < f → j + m = 4 → D 9 ps = nI q → MS s0 (D 1) G H → ∃ D' G', fX10_clearBy_L48 q15 q26 v2 v4 (nI ps) v1 f (nI j) D = q26 (v4 + 1) v2 D' ∧ MS s0 (D' 1) G' H ∧ (∀ l p, l < nL s0 → p < 4 → s0 (12 + 7 * l + 5) = nI p → ∀ f, f < 7 → G' l f = if j ≤ p ∧ p ≠ q then stL s0 false (G l) f else G l f) ∧ ScD D D' := by
  intro m
  induction m with
  | zero =>
    intro f j D G h1 hj h9 h
    obtain ⟨g, rfl⟩ : ∃ g, f = g + 1 := ⟨f - 1, by omega⟩
    unfold fX10_clearBy_L48 fX10_clearBy_L48b fX10_clearBy_B78
    rw [if_pos (show (4 : Int32) ≤ nI j from nI_le (a := 4) (by omega) (by omega))]
    exact ⟨D, G, rfl, h, fun l p hl hp e f hf => by rw [if_neg (by omega)], ScD.rf D⟩
  | succ m ih =>
    intro f j D G h1 hj h9 h
    obtain ⟨g, rfl⟩ : ∃ g, f = g + 1 := ⟨f - 1, by omega⟩
    unfold fX10_clearBy_L48 fX10_clearBy_L48b fX10_clearBy_B72
    rw [if_neg (show ¬ (4 : Int32) ≤ nI j from nI_ge (b := 4) (by omega) (by omega)), inb_nI hps (by omega), gd_t, ix_nI (by omega), h9, show nI j + 1 = nI (j + 1) from nI_1 j]
    by_cases e : j = q
    · rw [if_pos (by rw [e])]
      obtain ⟨D', G', s1, s2, s3, s4⟩ := ih g (j + 1) D G (by omega) (by omega) h9 h
      refine ⟨D', G', s1, s2, fun l p hl hp e2 f hf => ?_, s4⟩
      rw [s3 l p hl hp e2 f hf]
      by_cases c : j + 1 ≤ p ∧ p ≠ q
      · rw [if_pos c, if_pos (by omega)]
      · rw [if_neg c, if_neg (by omega)]
    · rw [if_neg (show ¬ nI j = nI q by rw [eq_nI (by omega) (by omega)]; exact e)]
      obtain ⟨D1, e1, e2, e3⟩ := m_all (D := D) h0 (p := j) (by omega) false h
      rw [show fX10_meltsAll (nI j) 0 D = some ((), D1) from e1, bd_s]
      obtain ⟨D', G', s1, s2, s3, s4⟩ := ih g (j + 1) D1 _ (by omega) (by omega) (by rw [e3 9 (by decide) (by decide) (by decide)]; exact h9) e2
      refine ⟨D', G', s1, s2, fun l p hl hp e4 f hf => ?_, e3.tr s4⟩
      rw [s3 l p hl hp e4 f hf]
      by_cases c : p = j
      · subst c
        rw [if_neg (by omega), if_pos (by omega), gAll_l e4]
      · have hg : gAll s0 j false G l = G l := by
          unfold gAll
          rw [if_neg (fun z => c (by rw [e4, eq_nI (by omega) (by omega)] at z; exact z))]
        rw [hg]
        by_cases c2 : j + 1 ≤ p ∧ p ≠ q
        · rw [if_pos c2, if_pos (by omega)]
        · rw [if_neg c2, if_neg (by omega)]
theorem m_cb26 {s0 : Sx} (h0 : SI s0) {q v ps : Nat} (hq : q < 4) (hv : v ≤ 20) (hps : ps < 4) (q15 : Int32 → Int32 → Mm → Option (Int32 × Mm)) : ∀ (m f k a : Nat) (D : Mm) (G : Nat → Nat → Int32) (H : Nat → Int32), m < f → k + m = v → D 9 ps = nI q → MS s0 (D 1) G H → ∃ D' G' H', fX10_clearBy_L26 q15 (nI ps) (nI v) f (nI k) (nI a) D = q15 (nI (ps + 1)) (nI (a + cF s0 (nP s0 q) m (fun t => G (pl s0 q t)) (H q))) D' ∧ MS s0 (D' 1) G' H' ∧ (∀ l p, l < nL s0 → p < 4 → p ≠ q → s0 (12 + 7 * l + 5) = nI p → ∀ f, f < 7 → G' l f = itW s0 m (G l) f) ∧ (∀ p, p ≠ q → H' p = H p) ∧ ScD D D' := by
  have hFU := FU_big
  intro m
  induction m with
  | zero =>
    intro f k a D G H h1 hk h9 h
    obtain ⟨g, rfl⟩ : ∃ g, f = g + 1 := ⟨f - 1, by omega⟩
    unfold fX10_clearBy_L26 fX10_clearBy_L26b fX10_clearBy_B84
    rw [if_pos (nI_le (by omega) (by omega)), show nI ps + 1 = nI (ps + 1) from nI_1 ps]
    exact ⟨D, G, H, rfl, h, fun _ _ _ _ _ _ _ _ => rfl, fun _ _ => rfl, ScD.rf D⟩
  | succ m ih =>
    intro f k a D G H h1 hk h9 h
    obtain ⟨g, rfl⟩ : ∃ g, f = g + 1 := ⟨f - 1, by omega⟩
    obtain ⟨D1, e1, e2, e3⟩ := m_sheet1 h0 hq h
    have h91 : D1 9 ps = nI q := by rw [e3 9 (by decide) (by decide) (by decide)]; exact h9
    have ea : nI a + (if mnS s0 (fun t => G (pl s0 q t)) (H q) (nP s0 q) < 3 then (0 : Int32) else 1) = nI (a + (if mnS s0 (fun t => G (pl s0 q t)) (H q) (nP s0 q) < 3 then 0 else 1)) := by
      by_cases c : mnS s0 (fun t => G (pl s0 q t)) (H q) (nP s0 q) < 3
      · rw [if_pos c, if_pos c, Int32.add_zero, Nat.add_zero]
      · rw [if_neg c, if_neg c, nI_1]
    unfold fX10_clearBy_L26 fX10_clearBy_L26b
    rw [if_neg (show ¬ nI v ≤ nI k from nI_ge (by omega) (by omega)), inb_nI hps (by omega), gd_t, ix_nI (by omega), h9, e1, bd_s, lt_e, ea]
    obtain ⟨D2, G2, f1, f2, f3, f4⟩ := m_oth_loop h0 hq q15 (fX10_clearBy_L26 q15 (nI ps) (nI v) g) (nI (a + (if mnS s0 (fun t => G (pl s0 q t)) (H q) (nP s0 q) < 3 then 0 else 1))) (nI k) (nI v) ps hps 4 FU 0 D1 _ (by omega) (by omega) h91 e2
    rw [show nI 0 = (0 : Int32) from rfl, show nI k + 1 = nI (k + 1) from nI_1 k] at f1
    obtain ⟨D3, G3, H3, g1, g2, g3, g4, g5⟩ := ih g (k + 1) (a + (if mnS s0 (fun t => G (pl s0 q t)) (H q) (nP s0 q) < 3 then 0 else 1)) D2 G2 (hUp H q) (by omega) (by omega) (by rw [f4 9 (by decide) (by decide) (by decide)]; exact h91) f2
    rw [f1, g1]
    have hcf : cF s0 (nP s0 q) m (fun t => G2 (pl s0 q t)) (hUp H q q) = cF s0 (nP s0 q) m (fun t => stL s0 true (G (pl s0 q t))) (H q + 1) := by
      rw [hUp_s]
      refine cF_cg m _ _ _ (fun t ht f hf => ?_)
      obtain ⟨c1, c2, c3, c4⟩ := h0.plx hq ht
      rw [f3 _ q c1 hq c3 f hf, if_neg (by omega), gAll_l c3]
    rw [hcf]
    refine ⟨D3, G3, H3, ?_, g2, fun l p hl hp hpq e f hf => ?_, fun p hp => ?_, (e3.tr f4).tr g5⟩
    · rw [show cF s0 (nP s0 q) (m + 1) (fun t => G (pl s0 q t)) (H q) = (if mnS s0 (fun t => G (pl s0 q t)) (H q) (nP s0 q) < 3 then 0 else 1) + cF s0 (nP s0 q) m (fun t => stL s0 true (G (pl s0 q t))) (H q + 1) from rfl, Nat.add_assoc]
    · rw [g3 l p hl hp hpq e f hf]
      show itW s0 m (G2 l) f = itW s0 m (stL s0 false (G l)) f
      refine itW_cg m _ _ (fun f hf => ?_) f hf
      have hg : gAll s0 q true G l = G l := by
        unfold gAll
        rw [if_neg (fun z => hpq (by rw [e, eq_nI (by omega) (by omega)] at z; exact z))]
      rw [f3 l p hl hp e f hf, if_pos (by omega), hg]
    · rw [g4 p hp]; unfold hUp; rw [if_neg hp]
/-- what a row of pages gives, from place i on -/
def sumC (s : Sx) (v : Nat) (row : Nat → Nat) : Nat → Nat → Nat
  | _, 0 => 0
  | i, m + 1 => ct s v (row i) i + sumC s v row (i + 1) m
theorem m_cb15 {s0 : Sx} (h0 : SI s0) {v n : Nat} (hv : v ≤ 20) (hn : n ≤ 4) (row : Nat → Nat) (hr : ∀ i, i < n → row i < 4) (hinj : ∀ i j, i < n → j < n → row i = row j → i = j) : ∀ (m f i a : Nat) (D : Mm) (G : Nat → Nat → Int32) (H : Nat → Int32), m < f → i + m = n → D 0 15 = nI n → (∀ j, j < n → D 9 j = nI (row j)) → MS s0 (D 1) G H → (∀ j, i ≤ j → j < n → (∀ l, l < nL s0 → s0 (12 + 7 * l + 5) = nI (row j) → ∀ f, f < 7 → G l f = itW s0 (i * v) (gS s0 l) f) ∧ H (row j) = s0 (181 + 10 * row j)) → ∃ D', fX10_clearBy_L15 (nI v) f (nI i) (nI a) D = fX10_clearBy_B90 (nI (a + sumC s0 v row i m)) D' ∧ ScD D D' := by
  have hFU := FU_big
  intro m
  induction m with
  | zero =>
    intro f i a D G H h1 hi h15 h9 h hG
    obtain ⟨g, rfl⟩ : ∃ g, f = g + 1 := ⟨f - 1, by omega⟩
    unfold fX10_clearBy_L15 fX10_clearBy_L15b
    rw [h15, if_pos (nI_le (by omega) (by omega))]
    exact ⟨D, rfl, ScD.rf D⟩
  | succ m ih =>
    intro f i a D G H h1 hi h15 h9 h hG
    obtain ⟨g, rfl⟩ : ∃ g, f = g + 1 := ⟨f - 1, by omega⟩
    have hq := hr i (by omega)
    obtain ⟨D1, G1, H1, e1, e2, e3, e4, e5⟩ := m_cb26 h0 hq hv (show i < 4 by omega) (fX10_clearBy_L15 (nI v) g) v FU 0 a D G H (by omega) (by omega) (h9 i (by omega)) h
    rw [show nI 0 = (0 : Int32) from rfl] at e1
    unfold fX10_clearBy_L15 fX10_clearBy_L15b
    rw [h15, if_neg (show ¬ nI n ≤ nI i from nI_ge (by omega) (by omega)), e1]
    have hct : cF s0 (nP s0 (row i)) v (fun t => G (pl s0 (row i) t)) (H (row i)) = ct s0 v (row i) i := by
      unfold ct
      rw [(hG i (Nat.le_refl i) (by omega)).2]
      refine cF_cg v _ _ _ (fun t ht f hf => ?_)
      obtain ⟨c1, c2, c3, c4⟩ := h0.plx hq ht
      exact (hG i (Nat.le_refl i) (by omega)).1 _ c1 c3 f hf
    rw [hct]
    obtain ⟨D2, s1, s2⟩ := ih g (i + 1) (a + ct s0 v (row i) i) D1 G1 H1 (by omega) (by omega) (by rw [e5 0 (by decide) (by decide) (by decide)]; exact h15) (fun j hj => by rw [e5 9 (by decide) (by decide) (by decide)]; exact h9 j hj) e2 (fun j j1 j2 => by
      have hne : row j ≠ row i := fun z => by have := hinj j i j2 (by omega) z; omega
      refine ⟨fun l hl e f hf => ?_, ?_⟩
      · rw [e3 l (row j) hl (hr j j2) hne e f hf, itW_cg v _ _ ((hG j (by omega) j2).1 l hl e) f hf, itW_add, show i * v + v = (i + 1) * v from (Nat.succ_mul i v).symm]
      · rw [e4 _ hne]; exact (hG j (by omega) j2).2)
    refine ⟨D2, ?_, e5.tr s2⟩
    rw [s1, show sumC s0 v row i (m + 1) = ct s0 v (row i) i + sumC s0 v row (i + 1) m from rfl, Nat.add_assoc]
theorem m_clearBy {s0 : Sx} (h0 : SI s0) {v n : Nat} (hv : v ≤ 20) (hn : n ≤ 4) (row : Nat → Nat) (hr : ∀ i, i < n → row i < 4) (hinj : ∀ i j, i < n → j < n → row i = row j → i = j) {D : Mm} (h15 : D 0 15 = nI n) (h9 : ∀ j, j < n → D 9 j = nI (row j)) (he : EqS (D 1) s0) : ∃ D', fX10_clearBy (nI v) D = some (nI (sumC s0 v row 0 n), D') ∧ EqS (D' 1) s0 ∧ ∀ a, a ≠ 1 → a ≠ 3 → a ≠ 6 → a ≠ 7 → D' a = D a := by
  have hFU := FU_big
  obtain ⟨D1, e1, e2, e3⟩ := e_cy_1_3 D
  obtain ⟨D2, s1, s2⟩ := m_cb15 h0 hv hn row hr hinj n FU 0 0 D1 _ _ (by omega) (by omega) (by rw [e3 0 (by decide)]; exact h15) (fun j hj => by rw [e3 9 (by decide)]; exact h9 j hj) (by rw [e3 1 (by decide)]; exact MS.eq h0 he.sy) (fun j _ hj => ⟨fun l hl _ f hf => by rw [Nat.zero_mul]; rfl, rfl⟩)
  obtain ⟨D3, t1, t2, t3⟩ := e_cy_3_1 D2
  rw [show nI 0 = (0 : Int32) from rfl, Nat.zero_add] at s1
  unfold fX10_clearBy
  rw [e1, bd_s, s1]
  unfold fX10_clearBy_B90
  rw [t1, bd_s]
  refine ⟨D3, rfl, ?_, fun a a1 a3 a6 a7 => by rw [t3 a a1, s2 a a1 a6 a7, e3 a a3]⟩
  rw [s2 3 (by decide) (by decide) (by decide)] at t2
  exact (t2.tr e2).tr he
