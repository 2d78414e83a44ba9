/-! PURE 17: check, said, decree. -/
/-- what the looking methods of the class need -/
def RV (C : Mm) (s : Sx) : Prop := C 0 6 = s 0 ∧ RSk 0 C s ∧ RSh 0 C s ∧ RSl 0 C s ∧ RSp 0 C s ∧ RSt 0 C s
theorem RS.rv {C : Mm} {s : Sx} (h : RS 0 C s) : RV C s := ⟨h.1.2.2.2.2.1, h.2.1, h.2.2.1, h.2.2.2.1, h.2.2.2.2.1, h.2.2.2.2.2.2.1⟩
theorem RV.cut {C : Mm} {s : Sx} {k j : Nat} {v : Int32} (hs : SI s) (h : RV (wr C k j v) s) (hk : 64 ≤ k) : RV C s := by
  obtain ⟨h1, h2, h3, h4, h5, h6⟩ := h
  have hL := hs.l24
  refine ⟨?_, fun j hj => ?_, fun p hp => ?_, fun i f hi hf => ?_, fun p hp => ?_, fun u hu => ?_⟩
  · rw [wr_c (by omega)] at h1; exact h1
  · have := h2 j hj; rw [wr_c (by omega)] at this; exact this
  · have := h3 p hp; rw [wr_c (by omega)] at this; exact this
  · have := h4 i f hi hf; rw [wr_c (by omega)] at this; exact this
  · have := h5 p hp; rw [wr_c (by omega), wr_c (by omega)] at this; exact this
  · have := h6 u hu; rw [wr_c (by omega), wr_c (by omega)] at this; exact this
theorem RV.rx {C : Mm} {s : Sx} (h : RV C s) : RX C s := ⟨h.2.1, h.2.2.2.2.2⟩
theorem RV.let {C : Mm} {s : Sx} (h : RV C s) {i f : Nat} (hi : i < nL s) (hf : f < 7) : C (4 + 1 * i) f = s (12 + 7 * i + f) := by
  have := h.2.2.2.1 i f hi hf
  rw [show 0 + 4 + i = 4 + 1 * i by omega] at this; exact this
theorem RV.lg {C : Mm} {s : Sx} (h : RV C s) (hs : SI s) {l : Nat} (hl : l < nL s) : LG (C (4 + 1 * l)) := (L_congr (fun f hf => (h.let hl hf).symm)).2.2.2 (hs.2.2.1 l hl).lg
theorem RV.sees {C : Mm} {s : Sx} (h : RV C s) (hs : SI s) {l : Nat} (hl : l < nL s) : ∃ C', fX7_seesOf (4 + 1 * l) (shS s l) C = some (seesL s (gS s l) (shS s l), C') ∧ ScC C C' := by
  have hL := hs.l24
  obtain ⟨r, C', e1, e2, e3⟩ := o_seesC (shS s l) (c_let l (by omega)) h.rx hs.tx (h.lg hs hl)
  refine ⟨C', ?_, e3⟩
  rw [e1, e2, (L_congr (g2 := gS s l) (fun f hf => h.let hl hf)).2.2.1]
theorem RV.reads {C : Mm} {s : Sx} (h : RV C s) (hs : SI s) {l : Nat} (hl : l < nL s) : fX3_reads (4 + 1 * l) C = some (readL (gS s l), C) := by
  have hL := hs.l24
  rw [e_readsC (c_let l (by omega)) (h.lg hs hl), (L_congr (g2 := gS s l) (fun f hf => h.let hl hf)).2.1]
theorem RV.pl {C : Mm} {s : Sx} (h : RV C s) (hs : SI s) {p j : Nat} (hp : p < 4) (hj : j < nP s p) : ∃ l, l < nL s ∧ l < 24 ∧ s (182 + 10 * p + j) = nI l ∧ s (12 + 7 * l + 5) = nI p ∧ fX7_letterIn (nI p) (nI j) C = some (4 + 1 * l, C) ∧ shS s l = s (181 + 10 * p) ∧ j < 8 := by
  have hpok := hs.pag hp
  have hL := hs.l24
  obtain ⟨l, b1, b2, b3⟩ := hpok.2.2.1 j hj
  have ec := h.2.2.2.2.1 p hp
  rw [show 0 + 29 + 2 * p = 29 + 2 * p by omega, show 0 + 30 + 2 * p = 30 + 2 * p by omega] at ec
  have h8 := hpok.2.1
  refine ⟨l, b1, by omega, b2, b3, e_letterIn hp (ec.1.trans hpok.1) h8 hj ((ec.2 j hj).trans b2) (by omega), ?_, by omega⟩
  unfold shS
  rw [b3, if_neg (fun e => neg1_ne hp e.symm), ix_nI (by omega)]
theorem RV.pn {C : Mm} {s : Sx} (h : RV C s) (hs : SI s) {p : Nat} (hp : p < 4) : C (29 + 2 * p) 1 = nI (nP s p) ∧ s (180 + 10 * p) = nI (nP s p) ∧ C 2 p = s (181 + 10 * p) := by
  have ec := (h.2.2.2.2.1 p hp).1
  rw [show 0 + 29 + 2 * p = 29 + 2 * p by omega] at ec
  have h2 := h.2.2.1 p hp
  rw [show 0 + 2 = 2 from rfl] at h2
  exact ⟨ec.trans (hs.pag hp).1, (hs.pag hp).1, h2⟩
theorem RV.sc {C C' : Mm} {s : Sx} (hs : SI s) (h : RV C s) (hc : ScC C C') : RV C' s := by
  obtain ⟨h1, h2, h3, h4, h5, h6⟩ := h
  have hL := hs.l24
  refine ⟨?_, fun j hj => ?_, fun p hp => ?_, fun i f hi hf => ?_, fun p hp => ?_, fun u hu => ?_⟩
  · rw [hc 0 (by omega) (by omega) (by omega) (by omega)]; exact h1
  · rw [hc _ (by omega) (by omega) (by omega) (by omega)]; exact h2 j hj
  · rw [hc _ (by omega) (by omega) (by omega) (by omega)]; exact h3 p hp
  · rw [hc _ (by omega) (by omega) (by omega) (by omega)]; exact h4 i f hi hf
  · rw [hc (0 + 29 + 2 * p) (by omega) (by omega) (by omega) (by omega), hc (0 + 30 + 2 * p) (by omega) (by omega) (by omega) (by omega)]; exact h5 p hp
  · rw [hc (0 + 38 + 5 * u) (by omega) (by omega) (by omega) (by omega), hc (0 + 39 + 5 * u) (by omega) (by omega) (by omega) (by omega)]; exact h6 u hu
theorem m_sees {D : Mm} (hs : SI (D 1)) {l : Nat} (hl : l < nL (D 1)) : ∃ D', fX10_sees (nI l) D = some (seesL (D 1) (gS (D 1) l) (shS (D 1) l), D') ∧ ScM D D' := by
  have hL := hs.l24
  obtain ⟨r2, D', f1, f2, f3⟩ := o_seesM (show l < 24 by omega) hs.tx (hs.2.2.1 l hl).lg (hs.2.2.1 l hl).2.2.2.2.2.1
  exact ⟨D', by rw [f1, f2], f3⟩
-- check
theorem chk_endC {j n w : Nat} {C : Mm} (hj : j < 2 ^ 31) (hn : n < 2 ^ 31) (hw : w < 2 ^ 31) (e : C 66 1 = nI w) : fX7_checkWaiting_B61 (nI j) (nI n) C = some (if j = n ∧ j = w then 0 else 1 + nI j, C) := by
  unfold fX7_checkWaiting_B61 fX7_checkWaiting_B81 fX7_checkWaiting_B84
  rw [e]
  simp only [eq_nI hj hn, eq_nI hj hw]
  by_cases h1 : j = n
  · by_cases h2 : j = w
    · rw [if_pos h1, if_pos h2, if_pos ⟨h1, h2⟩]
    · rw [if_pos h1, if_neg h2, if_neg (fun q => h2 q.2)]
  · rw [if_neg h1, if_neg (fun q => h1 q.1)]
theorem chk_endM {j n w : Nat} {D : Mm} (hj : j < 2 ^ 31) (hn : n < 2 ^ 31) (hw : w < 2 ^ 31) : fX10_check_B84 (nI j) (nI n) (nI w) D = some (if j = n ∧ j = w then 0 else 1 + nI j, D) := by
  unfold fX10_check_B84 fX10_check_B100 fX10_check_B104
  simp only [eq_nI hj hn, eq_nI hj hw]
  by_cases h1 : j = n
  · by_cases h2 : j = w
    · rw [if_pos h2, if_pos h1, if_pos ⟨h1, h2⟩]
    · rw [if_neg h2, if_neg (fun q => h2 q.2)]
  · by_cases h2 : j = w
    · rw [if_pos h2, if_neg h1, if_neg (fun q => h1 q.1)]
    · rw [if_neg h2, if_neg (fun q => h1 q.1)]
theorem chk_loop {p n w : Nat} (hp : p < 4) (hn8 : n ≤ 8) (hw24 : w ≤ 24) : ∀ (m f1 f2 j : Nat) (C D : Mm), m < f1 → m < f2 → SI (D 1) → RV C (D 1) → C 66 1 = nI w → (∀ i, i < w → C 67 i = D 1 (602 + i)) → nP (D 1) p = n → j + m = n → ∃ r C' D', fX7_checkWaiting_L12 (nI n) (nI p) f1 (nI j) C = some (r, C') ∧ fX10_check_L39 (nI n) (nI w) (nI p) f2 (nI j) D = some (r, D') ∧ ScC C C' ∧ ScM D D' := by
  intro m
  induction m with
  | zero =>
    intro f1 f2 j C D h1 h2 hs h ew eq en hj
    obtain ⟨g1, rfl⟩ : ∃ g, f1 = g + 1 := ⟨f1 - 1, by omega⟩
    obtain ⟨g2, rfl⟩ : ∃ g, f2 = g + 1 := ⟨f2 - 1, by omega⟩
    unfold fX7_checkWaiting_L12 fX10_check_L39 fX7_checkWaiting_L12b fX10_check_L39b
    rw [if_pos (nI_le (by omega) (by omega)), chk_endC (by omega) (by omega) (by omega) ew, chk_endM (by omega) (by omega) (by omega), if_pos (show nI n ≤ nI j from nI_le (by omega) (by omega)), ite_self]
    exact ⟨_, _, _, rfl, rfl, ScC.rf C, ScM.rf D⟩
  | succ m ih =>
    intro f1 f2 j C D h1 h2 hs h ew eq en hj
    obtain ⟨g1, rfl⟩ : ∃ g, f1 = g + 1 := ⟨f1 - 1, by omega⟩
    obtain ⟨g2, rfl⟩ : ∃ g, f2 = g + 1 := ⟨f2 - 1, by omega⟩
    unfold fX7_checkWaiting_L12 fX10_check_L39 fX7_checkWaiting_L12b fX10_check_L39b
    rw [if_neg (show ¬ nI n ≤ nI j from nI_ge (by omega) (by omega)), if_neg (show ¬ nI n ≤ nI j from nI_ge (by omega) (by omega)), ew]
    by_cases hwj : w ≤ j
    · rw [if_pos (show nI w ≤ nI j from nI_le hwj (by omega)), if_pos (show nI w ≤ nI j from nI_le hwj (by omega)), chk_endC (by omega) (by omega) (by omega) ew, chk_endM (by omega) (by omega) (by omega)]
      exact ⟨_, _, _, rfl, rfl, ScC.rf C, ScM.rf D⟩
    · obtain ⟨p1, p2, p3⟩ := h.pn hs hp
      obtain ⟨l, hl, hl24, b2, b3, b4, b5, b6⟩ := h.pl hs hp (j := j) (by omega)
      obtain ⟨C', e1, e3⟩ := h.sees hs hl
      obtain ⟨D', e2, e4⟩ := m_sees hs hl
      have eD : D' 1 = D 1 := e4 1 (by decide) (by decide)
      have e66 : C' 66 = C 66 := e3 66 (by decide) (by decide) (by decide) (by decide)
      have e67 : C' 67 = C 67 := e3 67 (by decide) (by decide) (by decide) (by decide)
      have h' : RV C' (D' 1) := by rw [eD]; exact h.sc hs e3
      rw [if_neg (show ¬ nI w ≤ nI j from nI_ge (by omega) (by omega)), if_neg (show ¬ nI w ≤ nI j from nI_ge (by omega) (by omega)), e_at (k := 66) (n := w) (by decide) ew (show w ≤ 24 from hw24) (by omega), bd_s, b4, bd_s, inb_nI hp (by omega), gd_t, ix_nI (by omega), p3, ← b5, e1, bd_s, if_pos (show j < w by omega), show (602 : Int32) + nI j = nI (602 + j) by rw [← nI_add]; rfl, inb_nI (by omega) (by omega), gd_t, e_ofR hp b6, bd_s, b2, e2, bd_s, ix_nI (by omega), show 66 + 1 = 67 from rfl, eq j (by omega), show nI j + 1 = nI (j + 1) from nI_1 j]
      by_cases hq : D 1 (602 + j) = seesL (D 1) (gS (D 1) l) (shS (D 1) l)
      · rw [if_pos hq, if_pos hq]
        obtain ⟨r, C2, D2, s1, s2, s3, s4⟩ := ih g1 g2 (j + 1) C' D' (by omega) (by omega) (by rw [eD]; exact hs) h' (by rw [e66]; exact ew) (fun i hi => by rw [e67, eD]; exact eq i hi) (by rw [eD]; exact en) (by omega)
        exact ⟨r, C2, D2, s1, s2, e3.tr s3, e4.tr s4⟩
      · rw [if_neg hq, if_neg hq, chk_endC (w := w) (by omega) (by omega) (by omega) (by rw [e66]; exact ew), chk_endM (by omega) (by omega) (by omega)]
        exact ⟨_, _, _, rfl, rfl, e3, e4⟩
theorem r_wait0 {C D : Mm} (h : Rel C D) : Rel (wr C 66 1 0) (wr D 1 6 0) := by
  obtain ⟨a, b, c, d, e, f, g⟩ := id h.si
  obtain ⟨r1, r2, r3, r4, r5, r6, r7, r8, r9⟩ := id h.rs
  obtain ⟨z1, z2, z3, z4, z5, z6, z7⟩ := h.si.sz
  have hE : ∀ i, i ≠ 6 → wr D 1 6 0 1 i = D 1 i := fun i hi => by rw [wr_at, if_neg (by omega)]
  have hC : ∀ k, k ≠ 66 → wr C 66 1 0 k = C k := fun k hk => wr_c hk
  have e6 : wr D 1 6 0 1 6 = 0 := wr_s
  have eQ : nQ (wr D 1 6 0 1) = 0 := by unfold nQ; rw [e6]; decide
  refine Rel_now h ⟨⟨by unfold nL at *; rw [hE 0 (by omega)]; exact a.1, by unfold nW at *; rw [hE 1 (by omega)]; exact a.2.1, by unfold nT at *; rw [hE 5 (by omega)]; exact a.2.2.1, by rw [eQ, e6]; exact ⟨rfl, by omega⟩⟩, kB (hE 2 (by omega)) (hE 3 (by omega)) (fun i h1 h2 => hE i (by omega)) b, kC (hE 0 (by omega)) z1 (fun i h1 h2 => hE i (by omega)) c, kD (hE 0 (by omega)) z1 (fun i h1 h2 => hE i (by omega)) d, kE (hE 1 (by omega)) z2 (fun i h1 h2 => hE i (by omega)) e, kF (fun i h1 h2 => hE i (by omega)) f, kG (hE 5 (by omega)) z3 (fun i h1 h2 => hE i (by omega)) g⟩ ⟨?_, kk (hC 1 (by omega)) (fun i h1 h2 => hE i (by omega)) r2, kh (hC 2 (by omega)) (fun p hp => hE _ (by omega)) r3, kl (hE 0 (by omega)) z1 (fun k h1 h2 => hC k (by omega)) (fun i h1 h2 => hE i (by omega)) r4, kp z5 (fun k h1 h2 => hC k (by omega)) (fun p j h1 h2 h3 => hE _ (by omega)) r5, kw (hE 1 (by omega)) z2 z6 (fun k h1 h2 => hC k (by omega)) (fun i h1 h2 => hE i (by omega)) r6, kt z7 (fun k h1 => hC k (by omega)) (fun i h1 h2 => hE i (by omega)) r7, ka (hE 5 (by omega)) z3 (hC 64 (by omega)) (hC 65 (by omega)) (fun i h1 h2 => hE i (by omega)) r8, ⟨by rw [e6]; exact wr_s, fun j hj => by rw [eQ] at hj; omega⟩⟩ (CF_lo (by omega)) MF_1
  unfold RSc at *
  rw [hC 0 (by omega), hE 2 (by omega), hE 3 (by omega), hE 4 (by omega), hE 7 (by omega), hE 0 (by omega), hE 1 (by omega)]
  exact r1
theorem wr_sc {C C' : Mm} {k j : Nat} {v : Int32} (h : ScC C C') : ScC (wr C k j v) (wr C' k j v) := fun a h1 h2 h3 h4 => by
  by_cases e : a = k
  · subst e; rw [wr_k, wr_k, h a h1 h2 h3 h4]
  · rw [wr_c e, wr_c e]; exact h a h1 h2 h3 h4
theorem op_check {C D : Mm} (h : Rel C D) (a : Int32) : Op (fX9_check a C) (fX10_check a D) := by
  have hFU := FU_big
  unfold fX9_check fX10_check fX9_check_B24
  rw [e_isPageC, bd_s, ix_lit6, lt_e, lt_e, e_isPage, bd_s]
  have h0 := r_wait0 h
  by_cases hw : wi a 0 3 = true
  · obtain ⟨p, hp, rfl⟩ := wi3 hw
    have h8 := (h0.si.pag hp).2.1
    have hq := h.si.1.2.2.2
    have hv : RV C (wr D 1 6 0 1) := RV.cut h0.si h0.rs.rv (by omega)
    obtain ⟨p1, p2, p3⟩ := hv.pn h0.si hp
    have e66 : C 66 1 = nI (nQ (D 1)) := h.rs.2.2.2.2.2.2.2.2.1.trans hq.1
    obtain ⟨r, C', D', s1, s2, s3, s4⟩ := chk_loop hp h8 hq.2 _ FU FU 0 C (wr D 1 6 0) (by omega) (by omega) h0.si hv e66 (fun i hi => by rw [wr_at, if_neg (by omega)]; exact h.rs.2.2.2.2.2.2.2.2.2 i hi) rfl (Nat.zero_add _)
    rw [show nI 0 = (0 : Int32) from rfl] at s1 s2
    rw [hw, if_pos rfl, if_pos rfl]
    unfold fX7_checkWaiting
    rw [inb_nI hp (by omega), gd_t, ix_nI (by omega), c_pag p hp, gd_t, lt_e, p1, s1, bd_s, e_of0 hp, bd_s, p2, hq.1, s2, e_clear (by decide)]
    exact ⟨_, _, _, rfl, rfl, Rel_scr h0 (wr_sc s3) s4⟩
  · rw [if_neg hw, if_neg hw, e_ref1, e_err1, bd_s, bd_s, e_clear (by decide), bd_s]
    refine ⟨_, _, _, rfl, rfl, ?_⟩
    have := Rel_err h0 (k := 1) (by decide) (by decide)
    rw [wr_c (show (172 : Nat) ≠ 66 by decide)] at this
    have e : wr (wr C 172 1 (C 172 1 + 1)) 66 1 0 = wr (wr C 66 1 0) 172 1 (C 172 1 + 1) := by
      funext a i
      simp only [wr_at]
      by_cases q1 : a = 66 ∧ i = 1
      · rw [if_pos q1, if_neg (by omega), if_pos q1]
      · rw [if_neg q1, if_neg q1]
    rw [e]
    exact this
