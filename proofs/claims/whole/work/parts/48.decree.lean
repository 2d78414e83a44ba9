/-! PURE 19: decree, word. -/
theorem casev_loop (gl : Int32) : ∀ (m f1 f2 j : Nat) (v : Int32) (C D : Mm), m < f1 → m < f2 → SI (D 1) → RV C (D 1) → j + m = nL (D 1) → ∃ r, fX7_caseOf_L4 gl f1 (nI j) v C = some (r, C) ∧ fX10_caseOf_L4 gl f2 (nI j) v D = some (r, D) := by
  intro m
  induction m with
  | zero =>
    intro f1 f2 j v C D h1 h2 hs h hj
    obtain ⟨g1, rfl⟩ : ∃ g, f1 = g + 1 := ⟨f1 - 1, by omega⟩
    obtain ⟨g2, rfl⟩ : ∃ g, f2 = g + 1 := ⟨f2 - 1, by omega⟩
    have hL := hs.l24
    unfold fX7_caseOf_L4 fX10_caseOf_L4 fX7_caseOf_L4b fX10_caseOf_L4b fX7_caseOf_B54 fX10_caseOf_B56
    rw [h.1, ix_lit0, hs.l0, if_pos (nI_le (by omega) (by omega)), if_pos (nI_le (by omega) (by omega))]
    exact ⟨_, rfl, rfl⟩
  | succ m ih =>
    intro f1 f2 j v C D h1 h2 hs h hj
    obtain ⟨g1, rfl⟩ : ∃ g, f1 = g + 1 := ⟨f1 - 1, by omega⟩
    obtain ⟨g2, rfl⟩ : ∃ g, f2 = g + 1 := ⟨f2 - 1, by omega⟩
    have hL := hs.l24
    have hl : j < nL (D 1) := by omega
    have hl24 : j < 24 := by omega
    have eg := h.let hl (f := 2) (by omega)
    have ep := h.let hl (f := 5) (by omega)
    have er1 := h.reads hs hl
    have er2 := e_readsM hl24 (hs.2.2.1 j hl).lg
    have go := fun v => ih g1 g2 (j + 1) v C D (by omega) (by omega) hs h (by omega)
    unfold fX7_caseOf_L4 fX10_caseOf_L4 fX7_caseOf_L4b fX10_caseOf_L4b fX7_caseOf_B48 fX10_caseOf_B47 fX10_caseOf_B48
    rw [h.1, ix_lit0, hs.l0, if_neg (nI_ge (by omega) (by omega)), if_neg (nI_ge (by omega) (by omega)), inb_nI hl24 (by omega), gd_t, ix_nI (by omega), c_let j hl24, gd_t, e_its2 hl24, bd_s, eg, ep, er1, bd_s, show nI j + 1 = nI (j + 1) from nI_1 j, lt_e, Int32.add_zero]
    by_cases h1 : D 1 (12 + 7 * j + 2) = gl
    · rw [if_pos h1, if_pos h1, e_its5 hl24, bd_s]
      rcases (hs.2.2.1 j hl).2.2.2.2.2.1 with hp | ⟨p, hp4, hp⟩
      · rw [hp, if_neg (by decide), if_pos rfl, er2, bd_s]
        by_cases h0 : readL (gS (D 1) j) ≤ 0
        · rw [if_pos h0, if_pos h0]; exact go v
        · rw [if_neg h0, if_neg h0, lt_e]; exact go (v + 1)
      · rw [hp, if_pos (nI_pos' (by omega)), if_neg (fun e => neg1_ne hp4 e.symm)]
        exact go v
    · rw [if_neg h1, if_neg h1]; exact go v
theorem v_case {C D : Mm} (hs : SI (D 1)) (h : RV C (D 1)) (gl : Int32) : ∃ r, fX7_caseOf gl C = some (r, C) ∧ fX10_caseOf gl D = some (r, D) := by
  have hFU := FU_big
  have hL := hs.l24
  exact casev_loop gl (nL (D 1)) FU FU 0 0 C D (by omega) (by omega) hs h (by omega)
def cnt (s : Sx) (b : Int32) : Nat → Nat
  | 0 => 0
  | k + 1 => cnt s b k + (if s (542 + k) = b then 1 else 0)
theorem e_glyphM (b : Int32) (M : Mm) : fX10_glyphOf b M = some (if wi b 97 122 = true then (b - 97) + 1 else 0, M) := by
  unfold fX10_glyphOf fX10_glyphOf_B21
  rw [e_in, bd_s]
  by_cases h : wi b 97 122 = true
  · rw [if_pos h, if_pos h]
  · rw [if_neg h, if_neg h]
theorem wi_sm {b : Int32} (h : wi b 97 122 = true) : ∃ g, 1 ≤ g ∧ g ≤ 26 ∧ b = nI (96 + g) ∧ (b - 97) + 1 = nI g := by
  obtain ⟨k, k1, k2, rfl⟩ := wiR (lo := 97) (hi := 122) (by omega) h (by omega)
  refine ⟨k - 96, by omega, by omega, congrArg nI (by omega), ?_⟩
  rw [show (97 : Int32) = nI 97 from rfl, pk_sub k1, show (1 : Int32) = nI 1 from rfl, nI_add]
  exact congrArg nI (by omega)
/-- the class's tape holds n bytes of s -/
def TP (C : Mm) (s : Sx) (n : Nat) : Prop := C 64 1 = nI n ∧ n ≤ 60 ∧ ∀ i, i < n → C 65 i = s (542 + i)
theorem TP.at {C : Mm} {s : Sx} {n i : Nat} (h : TP C s n) (hi : i < n) : fX5_at 64 (nI i) C = some (s (542 + i), C) := by
  obtain ⟨h1, h2, h3⟩ := h
  rw [e_at (k := 64) (n := n) (by decide) h1 (show n ≤ 60 from h2) (by omega), if_pos hi, show 64 + 1 = 65 from rfl, h3 i hi]
theorem times_loop {C : Mm} {s : Sx} {n j : Nat} (ht : TP C s n) (hj : j < n) : ∀ (m f i : Nat), m < f → i + m = j + 1 → fX7_timesUpTo_L4 (nI j) f (nI i) (nI (cnt s (s (542 + j)) i)) C = some (nI (cnt s (s (542 + j)) (j + 1)), C) := by
  have h60 := ht.2.1
  intro m
  induction m with
  | zero =>
    intro f i h1 hi
    obtain ⟨g1, rfl⟩ : ∃ g, f = g + 1 := ⟨f - 1, by omega⟩
    have : i = j + 1 := by omega
    subst this
    unfold fX7_timesUpTo_L4 fX7_timesUpTo_L4b fX7_timesUpTo_B42
    rw [if_pos (nI_lt (by omega) (by omega))]
  | succ m ih =>
    intro f i h1 hi
    obtain ⟨g1, rfl⟩ : ∃ g, f = g + 1 := ⟨f - 1, by omega⟩
    unfold fX7_timesUpTo_L4 fX7_timesUpTo_L4b fX7_timesUpTo_B34
    rw [if_neg (nI_nlt (by omega) (by omega)), ht.at (show i < n by omega), bd_s, ht.at hj, bd_s, lt_e, lt_e, show nI i + 1 = nI (i + 1) from nI_1 i]
    have := ih g1 (i + 1) (by omega) (by omega)
    by_cases e : s (542 + i) = s (542 + j)
    · rw [if_pos e]
      have e2 : nI (cnt s (s (542 + j)) i) + 1 = nI (cnt s (s (542 + j)) (i + 1)) := by
        rw [nI_1]; simp only [cnt, if_pos e]
      rw [e2]; exact this
    · rw [if_neg e]
      have e2 : nI (cnt s (s (542 + j)) i) + 0 = nI (cnt s (s (542 + j)) (i + 1)) := by
        rw [Int32.add_zero]; simp only [cnt, if_neg e, Nat.add_zero]
      rw [e2]; exact this
theorem dec_zero : ∀ (m f j : Nat) (D : Mm), m < f → j + m = 27 → (∀ i, i < j → D 8 i = 0) → ∃ D', fX10_decree_L2 f (nI j) D = fX10_decree_B21 D' ∧ (∀ i, i < 27 → D' 8 i = 0) ∧ ∀ a, a ≠ 8 → D' a = D a := by
  intro m
  induction m with
  | zero =>
    intro f j D h1 hj h
    obtain ⟨g, rfl⟩ : ∃ g, f = g + 1 := ⟨f - 1, by omega⟩
    unfold fX10_decree_L2 fX10_decree_L2b
    rw [if_pos (show (27 : Int32) ≤ nI j from nI_le (a := 27) (by omega) (by omega))]
    exact ⟨D, rfl, fun i hi => h i (by omega), fun _ _ => rfl⟩
  | succ m ih =>
    intro f j D h1 hj h
    obtain ⟨g, rfl⟩ : ∃ g, f = g + 1 := ⟨f - 1, by omega⟩
    unfold fX10_decree_L2 fX10_decree_L2b
    rw [if_neg (show ¬ (27 : Int32) ≤ nI j from nI_ge (b := 27) (by omega) (by omega)), inb_nI (by omega) (by omega), gd_t, ix_nI (by omega), lt_e, show nI j + 1 = nI (j + 1) from nI_1 j]
    obtain ⟨D', e1, e2, e3⟩ := ih g (j + 1) (wr D 8 j 0) (by omega) (by omega) (fun i hi => by
      rw [wr_at]
      by_cases e : i = j
      · rw [if_pos ⟨rfl, e⟩]
      · rw [if_neg (fun q => e q.2)]; exact h i (by omega))
    exact ⟨D', e1, e2, fun a ha => by rw [e3 a ha, wr_c ha]⟩
theorem dec_stop {n j f : Nat} (hf : 0 < f) (D : Mm) : fX10_decree_L39 (nI n) f 0 (nI j) D = some (nI j, D) := by
  obtain ⟨g, rfl⟩ : ∃ g, f = g + 1 := ⟨f - 1, by omega⟩
  unfold fX10_decree_L39 fX10_decree_L39b fX10_decree_B116
  rw [if_pos (show (0 : Int32) = 0 from rfl), ite_self]
theorem dec_loop {n : Nat} : ∀ (m f1 f2 j : Nat) (C D : Mm), m < f1 → m + 1 < f2 → SI (D 1) → RV C (D 1) → TP C (D 1) n → (∀ g, 1 ≤ g → g ≤ 26 → D 8 g = nI (cnt (D 1) (nI (96 + g)) j)) → j + m = n → ∃ r D', fX7_placeNotSet_L2 f1 (nI j) C = some (r, C) ∧ fX10_decree_L39 (nI n) f2 1 (nI j) D = some (r, D') ∧ ∀ a, a ≠ 8 → D' a = D a := by
  have hFU := FU_big
  intro m
  induction m with
  | zero =>
    intro f1 f2 j C D h1 h2 hs h ht hu hj
    obtain ⟨g1, rfl⟩ : ∃ g, f1 = g + 1 := ⟨f1 - 1, by omega⟩
    obtain ⟨g2, rfl⟩ : ∃ g, f2 = g + 1 := ⟨f2 - 1, by omega⟩
    have h60 := ht.2.1
    unfold fX7_placeNotSet_L2 fX10_decree_L39 fX7_placeNotSet_L2b fX10_decree_L39b fX7_placeNotSet_B56 fX10_decree_B116
    rw [ht.1, if_pos (nI_le (by omega) (by omega)), if_pos (nI_le (by omega) (by omega))]
    exact ⟨_, _, rfl, rfl, fun _ _ => rfl⟩
  | succ m ih =>
    intro f1 f2 j C D h1 h2 hs h ht hu hj
    obtain ⟨g1, rfl⟩ : ∃ g, f1 = g + 1 := ⟨f1 - 1, by omega⟩
    obtain ⟨g2, rfl⟩ : ∃ g, f2 = g + 1 := ⟨f2 - 1, by omega⟩
    have h60 := ht.2.1
    unfold fX7_placeNotSet_L2 fX10_decree_L39 fX7_placeNotSet_L2b fX10_decree_L39b fX7_placeNotSet_B56 fX10_decree_B99 fX10_decree_B100 fX10_decree_B111
    rw [ht.1, if_neg (show ¬ nI n ≤ nI j from nI_ge (by omega) (by omega)), if_neg (show ¬ nI n ≤ nI j from nI_ge (by omega) (by omega)), if_neg (show ¬ (1 : Int32) = 0 by decide), ht.at (show j < n by omega), bd_s, e_isSmallLetter, bd_s, show (542 : Int32) + nI j = nI (542 + j) by rw [← nI_add]; rfl, inb_nI (by omega) (by omega), gd_t, ix_nI (by omega), e_glyphM, bd_s]
    by_cases hw : wi (D 1 (542 + j)) 97 122 = true
    · obtain ⟨g, k1, k2, k3, k4⟩ := wi_sm hw
      have htimes := times_loop ht (show j < n by omega) (j + 1) FU 0 (by omega) (by omega)
      rw [show cnt (D 1) (D 1 (542 + j)) 0 = 0 from rfl] at htimes
      have hcnt : D 8 g + 1 = nI (cnt (D 1) (D 1 (542 + j)) (j + 1)) := by
        rw [hu g k1 k2, nI_1, k3]; simp only [cnt, k3, if_true]
      rw [if_pos hw, if_pos hw]
      unfold fX7_timesUpTo fX9_glyphOf
      rw [show (0 : Int32) = nI 0 from rfl, htimes, bd_s, ht.at (show j < n by omega), bd_s, bd_s, k4, inb_nI (by omega) (by omega), gd_t, ix_nI (by omega), lt_e, hcnt, wr_s]
      have eD : wr D 8 g (nI (cnt (D 1) (D 1 (542 + j)) (j + 1))) 1 = D 1 := wr_c (by decide)
      obtain ⟨r, e1, e2⟩ := v_case (C := C) (D := wr D 8 g (nI (cnt (D 1) (D 1 (542 + j)) (j + 1)))) (by rw [eD]; exact hs) (by rw [eD]; exact h) (nI g)
      rw [e1, bd_s, if_neg (show ¬ nI g ≤ nI 0 from nI_ge (by omega) (by omega)), e2, bd_s]
      by_cases hlt : r < nI (cnt (D 1) (D 1 (542 + j)) (j + 1))
      · rw [if_pos hlt, if_pos hlt, if_pos rfl, lt_e, show nI j + nI 0 = nI j from Int32.add_zero _, show nI 0 = (0 : Int32) from rfl, dec_stop (by omega)]
        exact ⟨_, _, rfl, rfl, fun a ha => wr_c ha⟩
      · rw [if_neg hlt, if_neg hlt, if_neg (show ¬ (1 : Int32) = nI 0 by decide), lt_e, show nI j + 1 = nI (j + 1) from nI_1 j]
        obtain ⟨r2, D2, s1, s2, s3⟩ := ih g1 g2 (j + 1) C (wr D 8 g (nI (cnt (D 1) (D 1 (542 + j)) (j + 1)))) (by omega) (by omega) (by rw [eD]; exact hs) (by rw [eD]; exact h) (by rw [eD]; exact ht) (fun q q1 q2 => by
          rw [wr_at, eD]
          by_cases e : q = g
          · rw [if_pos ⟨rfl, e⟩, e, k3]
          · rw [if_neg (fun z => e z.2), hu q q1 q2]
            have : ¬ D 1 (542 + j) = nI (96 + q) := by rw [k3, eq_nI (by omega) (by omega)]; omega
            simp only [cnt, if_neg this, Nat.add_zero]) (by omega)
        exact ⟨r2, D2, s1, s2, fun a ha => by rw [s3 a ha, wr_c ha]⟩
    · rw [if_neg hw, if_neg hw, show inb 0 27 = true by decide, gd_t, ix_lit0, lt_e, if_pos (show (0 : Int32) ≤ 0 by decide), if_pos (show (0 : Int32) = 0 from rfl), lt_e, Int32.add_zero, dec_stop (by omega)]
      exact ⟨_, _, rfl, rfl, fun a ha => wr_c ha⟩
theorem Rel_8 {C D D' : Mm} (h : Rel C D) (hd : ∀ a, a ≠ 8 → D' a = D a) : Rel C D' := by
  have e1 : D' 1 = D 1 := hd 1 (by decide)
  refine Rel_now h (by rw [e1]; exact h.si) (by rw [e1]; exact h.rs) (CF.rf C) ⟨hd 2 (by decide), hd 4 (by decide), hd 12 (by decide), hd 13 (by decide), hd 14 (by decide), hd 15 (by decide), by rw [hd 0 (by decide)], by rw [hd 0 (by decide)]⟩
theorem r_tape0 {C D : Mm} (h : Rel C D) : Rel (wr C 64 1 0) (wr D 1 5 0) :=
  r_tape (n := 0) h (by omega) wr_s wr_s (fun i h1 h2 h3 => by rw [wr_at, if_neg (by omega)]) (fun k h1 h2 h3 _ _ _ _ => wr_c h2) (fun j hj => by omega) (CF_lo (by omega)) MF_1
theorem op_decree {C D : Mm} (h : Rel C D) : Op (fX9_decree C) (fX10_decree D) := by
  have hFU := FU_big
  have hT := h.si.1.2.2.1
  unfold fX9_decree fX10_decree fX7_placeNotSet
  obtain ⟨D', e1, e2, e3⟩ := dec_zero 27 FU 0 D (by omega) (by omega) (fun i hi => by omega)
  have h8 := Rel_8 h e3
  have h0 := r_tape0 h8
  have eD : D' 1 = D 1 := e3 1 (by decide)
  have hv : RV C (wr D' 1 5 0 1) := RV.cut h0.si h0.rs.rv (by omega)
  have htp : TP C (wr D' 1 5 0 1) (nT (D 1)) := ⟨h.rs.2.2.2.2.2.2.2.1.1.trans hT.1, hT.2, fun i hi => by
    rw [wr_at, if_neg (by omega), eD]; exact h.rs.2.2.2.2.2.2.2.1.2 i hi⟩
  obtain ⟨r, D2, s1, s2, s3⟩ := dec_loop (n := nT (D 1)) _ FU FU 0 C (wr D' 1 5 0) (by omega) (by omega) h0.si hv htp (fun g g1 g2 => by rw [wr_c (by decide), e2 g (by omega)]; rfl) (Nat.zero_add _)
  rw [show (0 : Int32) = nI 0 from rfl, s1, bd_s, e_clear (by decide), bd_s, e1]
  unfold fX10_decree_B21
  rw [show nI 0 = (0 : Int32) from rfl] at s2
  rw [lt_e, ix_lit5, lt_e, eD, hT.1, s2]
  exact ⟨_, _, _, rfl, rfl, Rel_8 h0 s3⟩
