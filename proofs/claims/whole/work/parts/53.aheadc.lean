/-! PURE 24: what lies ahead, the class's side; run, lost, then, room, needs, judge. -/
def ScA (C C' : Mm) : Prop := ∀ a, a ≠ 40 → a ≠ 41 → a ≠ 45 → a ≠ 46 → ¬ (136 ≤ a ∧ a < 146) → C' a = C a
theorem ScA.rf (C : Mm) : ScA C C := fun _ _ _ _ _ _ => rfl
theorem ScA.tr {A B C : Mm} (h : ScA A B) (h2 : ScA B C) : ScA A C := fun a h1 h3 h4 h5 h6 => (h2 a h1 h3 h4 h5 h6).trans (h a h1 h3 h4 h5 h6)
theorem ScC.sa {C C' : Mm} (h : ScC C C') : ScA C C' := fun a h1 h2 h3 h4 _ => h a h1 h2 h3 h4
theorem ScA_wr {C : Mm} {k j : Nat} {v : Int32} (h1 : 136 ≤ k) (h2 : k < 146) : ScA C (wr C k j v) := fun a _ _ _ _ h => wr_c (by omega)
theorem RV.sa {C C' : Mm} {s : Sx} (hs : SI s) (h : RV C s) (hc : ScA C C') : RV C' s := by
  obtain ⟨h1, h2, h3, h4, h5, h6⟩ := h
  have hL := hs.l24
  refine ⟨?_, fun j hj => ?_, fun p hp => ?_, fun i f hi hf => ?_, fun p hp => ?_, fun u hu => ?_⟩
  · rw [hc 0 (by omega) (by omega) (by omega) (by omega) (by omega)]; exact h1
  · rw [hc _ (by omega) (by omega) (by omega) (by omega) (by omega)]; exact h2 j hj
  · rw [hc _ (by omega) (by omega) (by omega) (by omega) (by omega)]; exact h3 p hp
  · rw [hc _ (by omega) (by omega) (by omega) (by omega) (by omega)]; exact h4 i f hi hf
  · rw [hc (0 + 29 + 2 * p) (by omega) (by omega) (by omega) (by omega) (by omega), hc (0 + 30 + 2 * p) (by omega) (by omega) (by omega) (by omega) (by omega)]; exact h5 p hp
  · rw [hc (0 + 38 + 5 * u) (by omega) (by omega) (by omega) (by omega) (by omega), hc (0 + 39 + 5 * u) (by omega) (by omega) (by omega) (by omega) (by omega)]; exact h6 u hu
theorem RX.sa {C C' : Mm} {s : Sx} (h : RX C s) (hc : ScA C C') : RX C' s := by
  refine ⟨fun j hj => by rw [hc _ (by omega) (by omega) (by omega) (by omega) (by omega)]; exact h.1 j hj, fun u hu => ?_⟩
  rw [hc (0 + 38 + 5 * u) (by omega) (by omega) (by omega) (by omega) (by omega), hc (0 + 39 + 5 * u) (by omega) (by omega) (by omega) (by omega) (by omega)]
  exact h.2 u hu
def AC (C : Mm) (s : Sx) (n : Nat) (gs : Nat → Nat → Int32) (sh : Int32) : Prop := RX C s ∧ C 136 2 = nI n ∧ n ≤ 8 ∧ C 136 3 = sh ∧ ∀ j, j < n → LG (gs j) ∧ ∀ f, f < 7 → C (138 + 1 * j) f = gs j f
theorem AC.sc {C C' : Mm} {s : Sx} {n : Nat} {gs : Nat → Nat → Int32} {sh : Int32} (h : AC C s n gs sh) (hc : ScC C C') : AC C' s n gs sh := by
  obtain ⟨h1, h2, h3, h4, h5⟩ := h
  refine ⟨h1.sc hc, by rw [hc 136 (by omega) (by omega) (by omega) (by omega)]; exact h2, h3, by rw [hc 136 (by omega) (by omega) (by omega) (by omega)]; exact h4, fun j hj => ⟨(h5 j hj).1, fun f hf => ?_⟩⟩
  rw [hc _ (by omega) (by omega) (by omega) (by omega)]; exact (h5 j hj).2 f hf
theorem AC.cg {C : Mm} {s : Sx} {n : Nat} {gs gs2 : Nat → Nat → Int32} {sh : Int32} (h : AC C s n gs sh) (hg : ∀ j, j < n → ∀ f, f < 7 → gs2 j f = gs j f) : AC C s n gs2 sh := by
  obtain ⟨h1, h2, h3, h4, h5⟩ := h
  exact ⟨h1, h2, h3, h4, fun j hj => ⟨(L_congr (fun f hf => (hg j hj f hf).symm)).2.2.2 (h5 j hj).1, fun f hf => by rw [hg j hj f hf]; exact (h5 j hj).2 f hf⟩⟩
theorem c_seen_loop {s : Sx} (ht : TX s) {n : Nat} {gs : Nat → Nat → Int32} {sh : Int32} : ∀ (m f j : Nat) (C : Mm), m < f → j + m = n → AC C s n gs sh → ∃ C', fX0_seen_L5 f (nI j) (mnS s gs sh j) C = some (mnS s gs sh n, C') ∧ ScC C C' := by
  intro m
  induction m with
  | zero =>
    intro f j C h1 hj h
    obtain ⟨g, rfl⟩ : ∃ g, f = g + 1 := ⟨f - 1, by omega⟩
    have h8 := h.2.2.1
    have ej : j = n := by omega
    unfold fX0_seen_L5 fX0_seen_L5b fX0_seen_B41
    rw [h.2.1, if_pos (nI_le (by omega) (by omega)), ej]
    exact ⟨C, rfl, ScC.rf C⟩
  | succ m ih =>
    intro f j C h1 hj h
    obtain ⟨g, rfl⟩ : ∃ g, f = g + 1 := ⟨f - 1, by omega⟩
    have h8 := h.2.2.1
    have hg := h.2.2.2.2 j (by omega)
    obtain ⟨r, C1, e1, e2, e3⟩ := o_seesC sh (c_ahl j (by omega)) h.1 ht ((L_congr (fun f hf => (hg.2 f hf).symm)).2.2.2 hg.1)
    rw [(L_congr (fun f hf => hg.2 f hf)).2.2.1] at e2
    unfold fX0_seen_L5 fX0_seen_L5b
    rw [h.2.1, if_neg (nI_ge (by omega) (by omega)), inb_nI (by omega) (by omega), gd_t, ix_nI (by omega), h.2.2.2.1, e1, bd_s, lt_e, e2, show nI j + 1 = nI (j + 1) from nI_1 j]
    obtain ⟨C', s1, s2⟩ := ih g (j + 1) C1 (by omega) (by omega) (h.sc e3)
    exact ⟨C', s1, e3.tr s2⟩
theorem c_seen {s : Sx} (ht : TX s) {n : Nat} {gs : Nat → Nat → Int32} {sh : Int32} {C : Mm} (h : AC C s n gs sh) : ∃ C', fX0_seen C = some (mnS s gs sh n, C') ∧ ScC C C' := by
  have hFU := FU_big
  have h8 := h.2.2.1
  exact c_seen_loop ht n FU 0 C (by omega) (by omega) h
theorem age_eq {x : Nat} (h : x ≤ 99) : (if (99 : Int32) < nI x + 1 then (99 : Int32) else nI x + 1) = hd (nI x + bi true) 0 99 := by
  show _ = hd (nI x + 1) 0 99
  rw [nI_1]; unfold hd
  rw [if_pos (nI_pos' (by omega))]
  by_cases h9 : x + 1 ≤ 99
  · rw [if_pos (show nI (x + 1) ≤ (99 : Int32) from nI_le (b := 99) h9 (by omega)), if_neg (show ¬ (99 : Int32) < nI (x + 1) from nI_nlt (a := 99) (by omega) (by omega))]
  · rw [if_neg (show ¬ nI (x + 1) ≤ (99 : Int32) from nI_ge (a := 99) (by omega) (by omega)), if_pos (show (99 : Int32) < nI (x + 1) from nI_lt (a := 99) (by omega) (by omega))]
theorem c_step {s : Sx} (ht : TX s) {n : Nat} {gs : Nat → Nat → Int32} {sh : Int32} {C : Mm} (h : AC C s n gs sh) {j : Nat} (hj : j < n) : ∃ r C1, fX7_meltsOf (138 + 1 * j) C = some (r, C1) ∧ ScC C C1 ∧ AC (wr C1 (138 + 1 * j) 3 (C1 (138 + 1 * j) 3 - r)) s n (fun t => if t = j then stL s false (gs t) else gs t) sh ∧ AC (wr (wr C1 (138 + 1 * j) 3 (C1 (138 + 1 * j) 3 - r)) (138 + 1 * j) 6 (if (99 : Int32) < (wr C1 (138 + 1 * j) 3 (C1 (138 + 1 * j) 3 - r)) (138 + 1 * j) 6 + 1 then 99 else (wr C1 (138 + 1 * j) 3 (C1 (138 + 1 * j) 3 - r)) (138 + 1 * j) 6 + 1)) s n (fun t => if t = j then stL s true (gs t) else gs t) sh := by
  have h8 := h.2.2.1
  have hg := h.2.2.2.2 j hj
  obtain ⟨r, C1, e1, e2, e3⟩ := o_meltsC (c_ahl j (by omega)) h.1 ht ((L_congr (fun f hf => (hg.2 f hf).symm)).2.2.2 hg.1)
  rw [(L_congr (fun f hf => hg.2 f hf)).1] at e2
  have hb := h.sc e3
  obtain ⟨b1, b2, b3, b4, b5⟩ := hb
  have hgj := (b5 j hj).2
  obtain ⟨-, -, -, -, ⟨ag, hag, eag⟩⟩ := hg.1
  refine ⟨r, C1, e1, e3, ⟨b1.sa (ScA_wr (by omega) (by omega)), by rw [wr_c (by omega)]; exact b2, b3, by rw [wr_c (by omega)]; exact b4, fun t ht2 => ?_⟩, ⟨b1.sa ((ScA_wr (by omega) (by omega)).tr (ScA_wr (by omega) (by omega))), by rw [wr_c (by omega), wr_c (by omega)]; exact b2, b3, by rw [wr_c (by omega), wr_c (by omega)]; exact b4, fun t ht2 => ?_⟩⟩
  · by_cases e : t = j
    · subst e
      dsimp only
      rw [if_pos rfl]
      refine ⟨LG_st false hg.1, fun f hf => ?_⟩
      unfold stL
      by_cases f3 : f = 3
      · subst f3; rw [wr_s, if_pos rfl, hgj 3 (by omega), e2]
      · rw [wr_j f3, if_neg f3]
        by_cases f6 : f = 6
        · subst f6; rw [if_pos rfl, hgj 6 (by omega), eag, hd_keep hag]
        · rw [if_neg f6]; exact hgj f hf
    · dsimp only
      rw [if_neg e]
      exact ⟨(b5 t ht2).1, fun f hf => by rw [wr_c (by omega)]; exact (b5 t ht2).2 f hf⟩
  · by_cases e : t = j
    · subst e
      dsimp only
      rw [if_pos rfl]
      refine ⟨LG_st true hg.1, fun f hf => ?_⟩
      have ea : wr C1 (138 + 1 * t) 3 (C1 (138 + 1 * t) 3 - r) (138 + 1 * t) 6 = nI ag := by rw [wr_j (by decide), hgj 6 (by omega), eag]
      rw [ea]
      unfold stL
      by_cases f6 : f = 6
      · subst f6; rw [wr_s, if_neg (show ¬ (6 : Nat) = 3 by decide), if_pos rfl, eag, age_eq hag]
      · rw [wr_j f6]
        by_cases f3 : f = 3
        · subst f3; rw [wr_s, if_pos rfl, hgj 3 (by omega), e2]
        · rw [wr_j f3, if_neg f3, if_neg f6]; exact hgj f hf
    · dsimp only
      rw [if_neg e]
      exact ⟨(b5 t ht2).1, fun f hf => by rw [wr_c (by omega), wr_c (by omega)]; exact (b5 t ht2).2 f hf⟩
theorem c_pass_loop {s : Sx} (ht : TX s) {n : Nat} {sh : Int32} : ∀ (m f j : Nat) (C : Mm) (gs : Nat → Nat → Int32), m < f → j + m = n → AC C s n gs sh → ∃ C', fX0_passSheet_L2 f (nI j) C = some ((), C') ∧ AC C' s n (fun t => if j ≤ t then stL s true (gs t) else gs t) (sh + 1) ∧ ScA C C' := by
  intro m
  induction m with
  | zero =>
    intro f j C gs h1 hj h
    obtain ⟨g, rfl⟩ : ∃ g, f = g + 1 := ⟨f - 1, by omega⟩
    obtain ⟨b1, b2, b3, b4, b5⟩ := id h
    unfold fX0_passSheet_L2 fX0_passSheet_L2b fX0_passSheet_B48
    rw [h.2.1, if_pos (nI_le (by omega) (by omega)), lt_e]
    refine ⟨_, rfl, ⟨b1.sa (ScA_wr (by omega) (by omega)), by rw [wr_j (by decide)]; exact b2, b3, by rw [wr_s, b4], fun t ht2 => ?_⟩, ScA_wr (by omega) (by omega)⟩
    dsimp only
    rw [if_neg (by omega)]
    exact ⟨(b5 t ht2).1, fun f hf => by rw [wr_c (by omega)]; exact (b5 t ht2).2 f hf⟩
  | succ m ih =>
    intro f j C gs h1 hj h
    obtain ⟨g, rfl⟩ : ∃ g, f = g + 1 := ⟨f - 1, by omega⟩
    have h8 := h.2.2.1
    obtain ⟨r, C1, e1, e2, e3, e4⟩ := c_step ht h (show j < n by omega)
    unfold fX0_passSheet_L2 fX0_passSheet_L2b fX3_takeIce fX3_grow
    rw [h.2.1, if_neg (nI_ge (by omega) (by omega)), inb_nI (by omega) (by omega), gd_t, ix_nI (by omega), e1, bd_s, c_ahl j (by omega), gd_t, gd_t, lt_e, bd_s, gd_t, lt_e, bd_s, show nI j + 1 = nI (j + 1) from nI_1 j]
    obtain ⟨C', s1, s2, s3⟩ := ih g (j + 1) _ _ (by omega) (by omega) e4
    refine ⟨C', s1, s2.cg (fun t ht2 f hf => ?_), (e2.sa.tr ((ScA_wr (by omega) (by omega)).tr (ScA_wr (by omega) (by omega)))).tr s3⟩
    by_cases q : j ≤ t
    · by_cases q2 : t = j
      · rw [if_pos q, if_neg (by omega), if_pos q2]
      · rw [if_pos q, if_pos (by omega), if_neg q2]
    · rw [if_neg q, if_neg (by omega), if_neg (by omega)]
theorem c_pass {s : Sx} (ht : TX s) {n : Nat} {gs : Nat → Nat → Int32} {sh : Int32} {C : Mm} (h : AC C s n gs sh) : ∃ C', fX0_passSheet C = some ((), C') ∧ AC C' s n (fun t => stL s true (gs t)) (sh + 1) ∧ ScA C C' := by
  have hFU := FU_big
  have h8 := h.2.2.1
  obtain ⟨C', e1, e2, e3⟩ := c_pass_loop ht n FU 0 C gs (by omega) (by omega) h
  exact ⟨C', e1, e2.cg (fun t _ f _ => by rw [if_pos (Nat.zero_le t)]), e3⟩
theorem c_wait_loop {s : Sx} (ht : TX s) {n : Nat} {sh : Int32} : ∀ (m f j : Nat) (C : Mm) (gs : Nat → Nat → Int32), m < f → j + m = n → AC C s n gs sh → ∃ C', fX0_waitSheet_L2 f (nI j) C = some ((), C') ∧ AC C' s n (fun t => if j ≤ t then stL s false (gs t) else gs t) sh ∧ ScA C C' := by
  intro m
  induction m with
  | zero =>
    intro f j C gs h1 hj h
    obtain ⟨g, rfl⟩ : ∃ g, f = g + 1 := ⟨f - 1, by omega⟩
    have h8 := h.2.2.1
    unfold fX0_waitSheet_L2 fX0_waitSheet_L2b fX0_waitSheet_B39
    rw [h.2.1, if_pos (nI_le (by omega) (by omega))]
    exact ⟨_, rfl, h.cg (fun t ht2 f hf => by rw [if_neg (by omega)]), ScA.rf C⟩
  | succ m ih =>
    intro f j C gs h1 hj h
    obtain ⟨g, rfl⟩ : ∃ g, f = g + 1 := ⟨f - 1, by omega⟩
    have h8 := h.2.2.1
    obtain ⟨r, C1, e1, e2, e3, e4⟩ := c_step ht h (show j < n by omega)
    unfold fX0_waitSheet_L2 fX0_waitSheet_L2b fX3_takeIce
    rw [h.2.1, if_neg (nI_ge (by omega) (by omega)), inb_nI (by omega) (by omega), gd_t, ix_nI (by omega), e1, bd_s, c_ahl j (by omega), gd_t, gd_t, lt_e, bd_s, show nI j + 1 = nI (j + 1) from nI_1 j]
    obtain ⟨C', s1, s2, s3⟩ := ih g (j + 1) _ _ (by omega) (by omega) e3
    refine ⟨C', s1, s2.cg (fun t ht2 f hf => ?_), (e2.sa.tr (ScA_wr (by omega) (by omega))).tr s3⟩
    by_cases q : j ≤ t
    · by_cases q2 : t = j
      · rw [if_pos q, if_neg (by omega), if_pos q2]
      · rw [if_pos q, if_pos (by omega), if_neg q2]
    · rw [if_neg q, if_neg (by omega), if_neg (by omega)]
theorem c_wait {s : Sx} (ht : TX s) {n : Nat} {gs : Nat → Nat → Int32} {sh : Int32} {C : Mm} (h : AC C s n gs sh) : ∃ C', fX0_waitSheet C = some ((), C') ∧ AC C' s n (fun t => stL s false (gs t)) sh ∧ ScA C C' := by
  have hFU := FU_big
  have h8 := h.2.2.1
  obtain ⟨C', e1, e2, e3⟩ := c_wait_loop ht n FU 0 C gs (by omega) (by omega) h
  exact ⟨C', e1, e2.cg (fun t _ f _ => by rw [if_pos (Nat.zero_le t)]), e3⟩
/-- how many sheets in a run are clear -/
def rnF (s : Sx) (n : Nat) : Nat → (Nat → Nat → Int32) → Int32 → Nat
  | 0, _, _ => 0
  | m + 1, gs, sh => if mnS s gs sh n < 3 then 0 else 1 + rnF s n m (fun t => stL s true (gs t)) (sh + 1)
theorem rnF_cg {s : Sx} {n : Nat} : ∀ (m : Nat) (gs gs2 : Nat → Nat → Int32) (sh : Int32), (∀ t, t < n → ∀ f, f < 7 → gs t f = gs2 t f) → rnF s n m gs sh = rnF s n m gs2 sh
  | 0, _, _, _, _ => rfl
  | m + 1, gs, gs2, sh, h => by
    simp only [rnF, mnS_cg (n := n) h n (Nat.le_refl n), rnF_cg m _ _ (sh + 1) (fun t ht => stL_g (h t ht))]
theorem rnF_le {s : Sx} {n : Nat} : ∀ (m : Nat) (gs : Nat → Nat → Int32) (sh : Int32), rnF s n m gs sh ≤ m
  | 0, _, _ => Nat.le_refl 0
  | m + 1, gs, sh => by
    have := rnF_le (s := s) (n := n) m (fun t => stL s true (gs t)) (sh + 1)
    simp only [rnF]
    split <;> omega
theorem c_run_loop {s : Sx} (ht : TX s) {n v : Nat} (hv : v ≤ 1000) : ∀ (m f j : Nat) (C : Mm) (gs : Nat → Nat → Int32) (sh : Int32), m < f → j + m = v → AC C s n gs sh → ∃ C', fX0_clearInARun_L2 (nI v) f (nI j) C = some (nI (j + rnF s n m gs sh), C') ∧ ScA C C' := by
  intro m
  induction m with
  | zero =>
    intro f j C gs sh h1 hj h
    obtain ⟨g, rfl⟩ : ∃ g, f = g + 1 := ⟨f - 1, by omega⟩
    unfold fX0_clearInARun_L2 fX0_clearInARun_L2b fX0_clearInARun_B25
    rw [if_pos (nI_le (by omega) (by omega))]
    exact ⟨C, rfl, ScA.rf C⟩
  | succ m ih =>
    intro f j C gs sh h1 hj h
    obtain ⟨g, rfl⟩ : ∃ g, f = g + 1 := ⟨f - 1, by omega⟩
    obtain ⟨C1, e1, e2⟩ := c_seen ht h
    unfold fX0_clearInARun_L2 fX0_clearInARun_L2b fX0_clearInARun_B25
    rw [if_neg (show ¬ nI v ≤ nI j from nI_ge (by omega) (by omega)), e1, bd_s]
    simp only [rnF]
    by_cases hlt : mnS s gs sh n < 3
    · rw [if_pos hlt, if_pos hlt]
      exact ⟨C1, rfl, e2.sa⟩
    · obtain ⟨C2, f1, f2, f3⟩ := c_pass ht (h.sc e2)
      rw [if_neg hlt, if_neg hlt, f1, bd_s, show nI j + 1 = nI (j + 1) from nI_1 j]
      obtain ⟨C', s1, s2⟩ := ih g (j + 1) C2 _ _ (by omega) (by omega) f2
      exact ⟨C', by rw [s1, show j + 1 + rnF s n m (fun t => stL s true (gs t)) (sh + 1) = j + (1 + rnF s n m (fun t => stL s true (gs t)) (sh + 1)) by omega], (e2.sa.tr f3).tr s2⟩
theorem c_run {s : Sx} (ht : TX s) {n v : Nat} (hv : v ≤ 999) {gs : Nat → Nat → Int32} {sh : Int32} {C : Mm} (h : AC C s n gs sh) : ∃ C', fX0_clearInARun (nI v) C = some (nI (rnF s n v gs sh), C') ∧ ScA C C' := by
  have hFU := FU_big
  obtain ⟨C', e1, e2⟩ := c_run_loop ht (v := v) (by omega) v FU 0 C gs sh (by omega) (by omega) h
  rw [Nat.zero_add] at e1
  exact ⟨C', e1, e2⟩
theorem c_startp_loop {s : Sx} (hs : SI s) {p : Nat} (hp : p < 4) : ∀ (m f j : Nat) (C : Mm), m < f → j + m = nP s p → RV C s → C 136 2 = nI (nP s p) → (∀ t, t < j → ∀ f, f < 7 → C (138 + 1 * t) f = gS s (pl s p t) f) → ∃ C', fX0_startPage_L36 (nI p) f (nI j) C = some ((), C') ∧ (∀ t, t < nP s p → ∀ f, f < 7 → C' (138 + 1 * t) f = gS s (pl s p t) f) ∧ ScA C C' ∧ C' 136 = C 136 := by
  have h8 := (hs.pag hp).2.1
  intro m
  induction m with
  | zero =>
    intro f j C h1 hj hv e hd
    obtain ⟨g, rfl⟩ : ∃ g, f = g + 1 := ⟨f - 1, by omega⟩
    unfold fX0_startPage_L36 fX0_startPage_L36b fX0_startPage_B68
    rw [e, if_pos (nI_le (by omega) (by omega))]
    exact ⟨C, rfl, fun t ht => hd t (by omega), ScA.rf C, rfl⟩
  | succ m ih =>
    intro f j C h1 hj hv e hd
    obtain ⟨g, rfl⟩ : ∃ g, f = g + 1 := ⟨f - 1, by omega⟩
    obtain ⟨l, b1, b2, b3, b4, b5, b6, b7⟩ := hv.pl hs hp (j := j) (by omega)
    have epl : pl s p j = l := by unfold pl; rw [b3, ix_nI (by omega)]
    obtain ⟨C1, e1, e2, e3⟩ := o_takeL (k := 138 + 1 * j) (a := 4 + 1 * l) (c_ahl j (by omega)) (c_let l b2) (by omega) C
    unfold fX0_startPage_L36 fX0_startPage_L36b
    rw [e, if_neg (nI_ge (by omega) (by omega)), inb_nI (by omega) (by omega), gd_t, ix_nI (by omega), b5, bd_s, c_ahl j (by omega), gd_t, e1, bd_s, show nI j + 1 = nI (j + 1) from nI_1 j]
    have hsc : ScA C C1 := fun a _ _ _ _ h => e3 a (by omega)
    obtain ⟨C', s1, s2, s3, s4⟩ := ih g (j + 1) C1 (by omega) (by omega) (hv.sa hs hsc) (by rw [e3 136 (by omega)]; exact e) (fun t ht f hf => by
      by_cases q : t = j
      · subst q; rw [e2 f hf, epl, hv.let b1 hf]; rfl
      · rw [e3 _ (by omega)]; exact hd t (by omega) f hf)
    exact ⟨C', s1, s2, hsc.tr s3, by rw [s4, e3 136 (by omega)]⟩
theorem c_startp {s : Sx} (hs : SI s) {p : Nat} (hp : p < 4) {C : Mm} (hv : RV C s) : ∃ C', fX0_startPage (nI p) C = some ((), C') ∧ AC C' s (nP s p) (fun t => gS s (pl s p t)) (s (181 + 10 * p)) ∧ ScA C C' := by
  have hFU := FU_big
  have h8 := (hs.pag hp).2.1
  obtain ⟨p1, p2, p3⟩ := hv.pn hs hp
  unfold fX0_startPage
  rw [inb_nI hp (by omega), gd_t, ix_nI (by omega), c_pag p hp, gd_t, p1, if_neg (show ¬ (8 : Int32) < nI (nP s p) from nI_nlt (a := 8) (by omega) (by omega)), lt_e, lt_e, wr_c (show (2 : Nat) ≠ 136 by decide), p3]
  have hsc : ScA C (wr (wr C 136 2 (nI (nP s p))) 136 3 (s (181 + 10 * p))) := (ScA_wr (by omega) (by omega)).tr (ScA_wr (by omega) (by omega))
  obtain ⟨C', s1, s2, s3, s4⟩ := c_startp_loop hs hp (nP s p) FU 0 (wr (wr C 136 2 (nI (nP s p))) 136 3 (s (181 + 10 * p))) (by omega) (by omega) (hv.sa hs hsc) (by rw [wr_j (by decide), wr_s]) (fun t ht => by omega)
  refine ⟨C', s1, ⟨hv.rx.sa (hsc.tr s3), by rw [s4, wr_j (by decide), wr_s], h8, by rw [s4, wr_s], fun j hj => ⟨?_, s2 j hj⟩⟩, hsc.tr s3⟩
  obtain ⟨c1, c2, c3, c4⟩ := hs.plx hp hj
  exact (hs.2.2.1 _ c1).lg
theorem v_around {C : Mm} {s : Sx} (hv : RV C s) (hs : SI s) {l : Nat} (hl : l < nL s) : fX7_sheetsAround (4 + 1 * l) C = some (shS s l, C) := by
  have hL := hs.l24
  unfold fX7_sheetsAround fX7_sheetsAround_B23
  have e5 : C (4 + 1 * l) 5 = s (12 + 7 * l + 5) := hv.let hl (by omega)
  rw [c_let l (by omega), gd_t, e5, e_isPageC, bd_s]
  unfold shS
  rcases (hs.2.2.1 l hl).2.2.2.2.2.1 with hp | ⟨p, hp4, hp⟩
  · rw [hp, show wi (-1) 0 3 = false by decide, if_neg (by decide), if_pos rfl]
  · rw [hp, wi3_t hp4, if_pos rfl, e5, hp, inb_nI hp4 (by omega), gd_t, ix_nI (by omega), if_neg (fun e => neg1_ne hp4 e.symm)]
    have := hv.2.2.1 p hp4
    rw [show 0 + 2 = 2 from rfl] at this
    rw [this]
theorem c_startl {s : Sx} (hs : SI s) {l : Nat} (hl : l < nL s) {C : Mm} (hv : RV C s) : ∃ C', fX0_startLetter (4 + 1 * l) C = some ((), C') ∧ AC C' s 1 (fun _ => gS s l) (shS s l) ∧ ScA C C' := by
  have hL := hs.l24
  unfold fX0_startLetter
  have hsc : ScA C (wr C 136 2 1) := ScA_wr (by omega) (by omega)
  obtain ⟨C1, e1, e2, e3⟩ := o_takeL (k := 138 + 1 * 0) (a := 4 + 1 * l) (c_ahl 0 (by omega)) (c_let l (by omega)) (by omega) (wr (wr C 136 2 1) 136 3 (shS s l))
  rw [lt_e, v_around (hv.sa hs hsc) hs hl, bd_s, lt_e, show inb 0 8 = true by decide, gd_t, ix_lit0, c_ahl 0 (by omega), gd_t, e1, bd_s]
  have hsc2 : ScA C C1 := (hsc.tr (ScA_wr (by omega) (by omega))).tr (fun a _ _ _ _ h => e3 a (by omega))
  refine ⟨C1, rfl, ⟨hv.rx.sa hsc2, by rw [e3 136 (by omega), wr_j (by decide), wr_s]; rfl, by omega, by rw [e3 136 (by omega), wr_s], fun j hj => ⟨(hs.2.2.1 l hl).lg, fun f hf => ?_⟩⟩, hsc2⟩
  have : j = 0 := by omega
  subst this
  rw [e2 f hf, wr_c (by omega), wr_c (by omega), hv.let hl hf]; rfl
