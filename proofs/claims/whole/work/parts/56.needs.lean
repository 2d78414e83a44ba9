/-! PURE 27: needs, judge. -/
theorem MS_sheet {s0 : Sx} (h0 : SI s0) {D : Mm} {G : Nat → Nat → Int32} {H : Nat → Int32} {p : Nat} (hp : p < 4) (h : MS s0 (D 1) G H) : MS s0 (wr D 1 (181 + 10 * p) (D 1 (181 + 10 * p) + 1) 1) G (hUp H p) := by
  have hL := h0.l24
  have hE : ∀ i, i ≠ 181 + 10 * p → wr D 1 (181 + 10 * p) (D 1 (181 + 10 * p) + 1) 1 i = D 1 i := fun i hi => by rw [wr_at, if_neg (by omega)]
  refine ⟨SI_soft h.1 (fun q hq hn => hE q (fun e => hn (by unfold softI; omega))) ⟨by rw [hE 2 (by omega)]; exact h.1.2.1.1, by rw [hE 3 (by omega)]; exact h.1.2.1.2.1, fun r hr => by rw [hE _ (by omega)]; exact h.1.2.1.2.2 r hr⟩ (fun k hk => LOK_congr (fun f hf => (hE _ (by have := h.1.l24; omega)).symm) (h.1.2.2.1 k hk)), fun i hi hx => ?_, fun l f hl hf => ?_, fun q hq => ?_, h.2.2.2.2⟩
  · rw [hE i (fun e => hx (by unfold msx; omega))]; exact h.2.1 i hi hx
  · rw [hE _ (by omega)]; exact h.2.2.1 l f hl hf
  · unfold hUp
    by_cases e : q = p
    · rw [if_pos e, e, wr_s, h.2.2.2.1 p hp]
    · rw [if_neg e, hE _ (by omega)]; exact h.2.2.2.1 q hq
theorem m_one {s0 : Sx} (h0 : SI s0) {D : Mm} {G : Nat → Nat → Int32} {H : Nat → Int32} (h : MS s0 (D 1) G H) {l p : Nat} (hl : l < nL s0) (hp : p < 4) (he : s0 (12 + 7 * l + 5) = nI p) : ∃ D', (∀ (q : Int32 → Int32 → Mm → Option (Bool × Mm)) (v5 v3 w0 : Int32), fX10_lasts_B49 q v5 (nI l) v3 w0 D = q (v5 + 1) w0 D') ∧ MS s0 (D' 1) (fun k => if k = l then stL s0 true (G k) else G k) (hUp H p) ∧ ScD D D' := by
  have hL := h0.l24
  have hl24 : l < 24 := by omega
  have hlD : l < nL (D 1) := by rw [h.nl]; exact hl
  have hlok := h.1.2.2.1 l hlD
  obtain ⟨r, D1, e1, e2, e3⟩ := o_meltsM hl24 h.1.tx hlok.lg
  have eD : D1 1 = D 1 := e3 1 (by decide) (by decide)
  rw [meltL_te h.te h0.tx hlok.lg, (L_congr (h.gs hl)).1] at e2
  obtain ⟨-, -, ⟨i, hi, ei⟩, -, ⟨ag, hag, eag⟩⟩ := h.lg hl
  obtain ⟨b, hb, eb⟩ := melt_rng (s := s0) ei hi
  obtain ⟨ak, hak, eak⟩ := hd99 hag true
  have h1 : MS s0 (D1 1) G H := by rw [eD]; exact h
  have h2 := MS_lay (D := D1) h1 (f := 3) (v := nI (i - b)) hl (by omega) (by rw [eD]; exact LOK_ice hlok (by omega))
  have hl2 : l < nL (wr D1 1 (12 + 7 * l + 3) (nI (i - b)) 1) := by rw [h2.nl]; exact hl
  have h3 := MS_lay h2 (f := 6) (v := nI ak) hl (by omega) (LOK_age (h2.1.2.2.1 l hl2) hak)
  have h4 := MS_sheet h0 hp h3
  generalize hD4 : wr (wr (wr D1 1 (12 + 7 * l + 3) (nI (i - b))) 1 (12 + 7 * l + 6) (nI ak)) 1 (181 + 10 * p) _ = D4 at h4
  refine ⟨D4, fun q v5 v3 w0 => ?_, h4.cg (fun k f hk hf => ?_) (fun _ _ => rfl), fun a a1 a6 a7 => by rw [← hD4, wr_c a1, wr_c a1, wr_c a1, e3 a a6 a7]⟩
  · have ev3 : D1 1 (12 + 7 * l + 3) = nI i := by rw [eD, h.2.2.1 l 3 hl (by omega), ei]
    have ev6 : wr D1 1 (12 + 7 * l + 3) (nI (i - b)) 1 (12 + 7 * l + 6) = nI ag := by rw [wr_at, if_neg (by omega), eD, h.2.2.1 l 6 hl (by omega), eag]
    have ev5 : wr (wr D1 1 (12 + 7 * l + 3) (nI (i - b))) 1 (12 + 7 * l + 6) (nI ak) 1 (12 + 7 * l + 5) = nI p := by rw [wr_at, if_neg (by omega), wr_at, if_neg (by omega), eD, h.2.2.1 l 5 hl (by omega), h.2.2.2.2 l hl, he]
    have ex : ((180 : Int32) + ((10 : Int32) * nI p)) + (1 : Int32) = nI (181 + 10 * p) := by
      have := x_pag p 1
      rw [show 180 + 10 * p + 1 = 181 + 10 * p by omega] at this; exact this
    unfold fX10_lasts_B49
    rw [e1, bd_s, e_its3 hl24, bd_s, ev3, e2, eb, pk_sub hb, e_lays3 hl24, bd_s, e_its6 hl24, bd_s, ev6, e_held, bd_s, show hd (nI ag + 1) 0 99 = nI ak from eak, e_lays6 hl24, bd_s, e_its5 hl24, bd_s, ev5, ex, inb_nI (by omega) (by omega), gd_t, ix_nI (by omega), lt_e, hD4]
  · by_cases e : k = l
    · subst e
      rw [if_pos rfl, if_pos rfl, if_pos rfl]
      unfold stL upd
      by_cases f3 : f = 3
      · subst f3; rw [if_pos rfl, if_neg (by decide), if_pos rfl, ei, eb, pk_sub hb]
      · by_cases f6 : f = 6
        · subst f6; rw [if_neg (by decide), if_pos rfl, if_pos rfl, eag, eak]
        · rw [if_neg f3, if_neg f6, if_neg f6, if_neg f3]
    · rw [if_neg e, if_neg e, if_neg e]
theorem lasts_loop {s0 : Sx} (h0 : SI s0) {l p v : Nat} (hl : l < nL s0) (hp : p < 4) (he : s0 (12 + 7 * l + 5) = nI p) (hv : v ≤ 99) : ∀ (m f j : Nat) (D : Mm) (G : Nat → Nat → Int32) (H : Nat → Int32), m + 1 < f → j + m = v → MS s0 (D 1) G H → ∃ D', fX10_lasts_L24 (nI l) (nI v) f (nI j) 1 D = fX10_lasts_B125 (bi (decide (rnF s0 1 m (fun _ => G l) (H p) = m))) D' ∧ ScD D D' := by
  intro m
  induction m with
  | zero =>
    intro f j D G H h1 hj h
    obtain ⟨g, rfl⟩ : ∃ g, f = g + 1 := ⟨f - 1, by omega⟩
    unfold fX10_lasts_L24 fX10_lasts_L24b
    rw [if_pos (nI_le (by omega) (by omega))]
    exact ⟨D, rfl, ScD.rf D⟩
  | succ m ih =>
    intro f j D G H h1 hj h
    obtain ⟨g, rfl⟩ : ∃ g, f = g + 1 := ⟨f - 1, by omega⟩
    obtain ⟨D1, e1, e2⟩ := m_sees1 h0 h hl hp he
    have eD : D1 1 = D 1 := e2 1 (by decide) (by decide)
    obtain ⟨D2, f1, f2, f3⟩ := m_one (D := D1) h0 (by rw [eD]; exact h) hl hp he
    unfold fX10_lasts_L24 fX10_lasts_L24b
    rw [if_neg (show ¬ nI v ≤ nI j from nI_ge (by omega) (by omega)), if_neg (show ¬ (1 : Int32) = 0 by decide), e1, bd_s, f1, f1, show nI j + 1 = nI (j + 1) from nI_1 j]
    rw [show rnF s0 1 (m + 1) (fun _ => G l) (H p) = if mnS s0 (fun _ => G l) (H p) 1 < 3 then 0 else 1 + rnF s0 1 m (fun _ => stL s0 true (G l)) (H p + 1) from rfl, mnS1]
    by_cases hlt : seesL s0 (G l) (H p) < 3
    · rw [if_pos hlt, if_pos hlt]
      obtain ⟨g', rfl⟩ : ∃ g', g = g' + 1 := ⟨g - 1, by omega⟩
      unfold fX10_lasts_L24 fX10_lasts_L24b
      rw [if_pos (show (0 : Int32) = 0 from rfl), ite_self, show decide (0 = m + 1) = false from decide_eq_false (by omega)]
      exact ⟨D2, rfl, e2.sd.tr f3⟩
    · rw [if_neg hlt, if_neg hlt]
      obtain ⟨D', s1, s2⟩ := ih g (j + 1) D2 _ _ (by omega) (by omega) f2
      rw [if_pos rfl, hUp_s] at s1
      refine ⟨D', ?_, (e2.sd.tr f3).tr s2⟩
      rw [s1, show decide (rnF s0 1 m (fun _ => stL s0 true (G l)) (H p + 1) = m) = decide (1 + rnF s0 1 m (fun _ => stL s0 true (G l)) (H p + 1) = m + 1) from decide_eq_decide.mpr (by omega)]
def u3 (k : Nat) (g : Nat → Int32) : Nat → Int32 := upd g 3 (nI k)
def nd (s : Sx) (l p v k : Nat) : Nat := rnF s 1 v (fun _ => u3 k (gS s l)) (s (181 + 10 * p))
theorem m_lasts {D : Mm} (h0 : SI (D 1)) {l p v k : Nat} (hl : l < nL (D 1)) (hp : p < 4) (he : D 1 (12 + 7 * l + 5) = nI p) (hv : v ≤ 99) (hk : k ≤ 999) : ∃ D', fX10_lasts (nI l) (nI k) (nI v) D = some (decide (nd (D 1) l p v k = v), D') ∧ EqS (D' 1) (D 1) ∧ ∀ a, a ≠ 1 → a ≠ 3 → a ≠ 6 → a ≠ 7 → D' a = D a := by
  have hFU := FU_big
  have hL := h0.l24
  obtain ⟨D1, e1, e2, e3⟩ := e_cy_1_3 D
  have eD : D1 1 = D 1 := e3 1 (by decide)
  have h1 := MS_lay (s0 := D 1) (D := D1) (by rw [eD]; exact MS.rf h0) (f := 3) (v := nI k) hl (by omega) (by rw [eD]; exact LOK_ice (h0.2.2.1 l hl) hk)
  obtain ⟨D2, s1, s2⟩ := lasts_loop h0 hl hp he hv v FU 0 _ _ _ (by omega) (by omega) h1
  obtain ⟨D3, t1, t2, t3⟩ := e_cy_3_1 D2
  rw [show nI 0 = (0 : Int32) from rfl, if_pos rfl] at s1
  unfold fX10_lasts
  rw [e1, bd_s, e_lays3 (by omega), bd_s, s1]
  unfold fX10_lasts_B125
  rw [t1, bd_s]
  refine ⟨D3, ?_, ?_, fun a a1 a3 a6 a7 => by rw [t3 a a1, s2 a a1 a6 a7, wr_c a1, e3 a a3]⟩
  · show gd (isb (bi (decide (nd (D 1) l p v k = v)))) (some (decide (bi (decide (nd (D 1) l p v k = v)) = 1), D3)) = some (decide (nd (D 1) l p v k = v), D3)
    generalize decide (nd (D 1) l p v k = v) = X
    cases X <;> rfl
  · rw [s2 3 (by decide) (by decide) (by decide), wr_c (by decide)] at t2
    exact t2.tr e2
theorem c_nd {C : Mm} {s : Sx} (hs : SI s) (hc : RV C s) {l p v k : Nat} (hl : l < nL s) (hp : p < 4) (he : s (12 + 7 * l + 5) = nI p) (hv : v ≤ 99) (hk : k ≤ 999) : ∃ C1 C2, fX0_startLetter (4 + 1 * l) C = some ((), C1) ∧ fX0_clearInARun (nI v) (wr C1 (138 + 1 * 0) 3 (nI k)) = some (nI (nd s l p v k), C2) ∧ ScA C C2 := by
  have esh : shS s l = s (181 + 10 * p) := by
    unfold shS
    rw [he, if_neg (fun e => neg1_ne hp e.symm), ix_nI (by omega)]
  obtain ⟨C1, e1, e2, e3⟩ := c_startl hs hl hc
  rw [esh] at e2
  obtain ⟨b1, b2, b3, b4, b5⟩ := e2
  have hac : AC (wr C1 (138 + 1 * 0) 3 (nI k)) s 1 (fun _ => u3 k (gS s l)) (s (181 + 10 * p)) := by
    refine ⟨b1.sa (ScA_wr (by omega) (by omega)), by rw [wr_c (by omega)]; exact b2, b3, by rw [wr_c (by omega)]; exact b4, fun j hj => ?_⟩
    obtain ⟨x1, x2⟩ := b5 j hj
    have : j = 0 := by omega
    subst this
    refine ⟨⟨x1.1, x1.2.1, ⟨k, hk, rfl⟩, x1.2.2.2.1, x1.2.2.2.2⟩, fun f hf => ?_⟩
    unfold u3 upd
    dsimp only
    by_cases f3 : f = 3
    · subst f3; rw [wr_s, if_pos rfl]
    · rw [wr_j f3, if_neg f3]; exact x2 f hf
  obtain ⟨C2, f1, f2⟩ := c_run hs.tx (v := v) (by omega) hac
  exact ⟨C1, C2, e1, f1, (e3.tr (ScA_wr (by omega) (by omega))).tr f2⟩
theorem needs_loop {l p v : Nat} (hp : p < 4) (hv : v ≤ 30) : ∀ (m f1 f2 k : Nat) (C D : Mm), m < f1 → m < f2 → k + m = 1000 → Rel C D → l < nL (D 1) → D 1 (12 + 7 * l + 5) = nI p → Op (fX9_needs_L55 (4 + 1 * l) (nI v) f1 (nI k) C) (fX10_needs_L42 (nI l) (nI v) f2 (nI k) D) := by
  intro m
  induction m with
  | zero =>
    intro f1 f2 k C D h1 h2 hk h hl he
    obtain ⟨g1, rfl⟩ : ∃ g, f1 = g + 1 := ⟨f1 - 1, by omega⟩
    obtain ⟨g2, rfl⟩ : ∃ g, f2 = g + 1 := ⟨f2 - 1, by omega⟩
    unfold fX9_needs_L55 fX10_needs_L42 fX9_needs_L55b fX10_needs_L42b fX9_needs_B106 fX10_needs_B65 fX10_needs_B81
    rw [if_pos (show (999 : Int32) < nI k from nI_lt (a := 999) (by omega) (by omega)), if_pos (show (999 : Int32) < nI k from nI_lt (a := 999) (by omega) (by omega)), if_pos (show (999 : Int32) < nI k from nI_lt (a := 999) (by omega) (by omega)), e_ref2, e_err2]
    exact op_err h (by decide) (by decide)
  | succ m ih =>
    intro f1 f2 k C D h1 h2 hk h hl he
    obtain ⟨g1, rfl⟩ : ∃ g, f1 = g + 1 := ⟨f1 - 1, by omega⟩
    obtain ⟨g2, rfl⟩ : ∃ g, f2 = g + 1 := ⟨f2 - 1, by omega⟩
    have hL := h.si.l24
    obtain ⟨C1, C2, e1, e2, e3⟩ := c_nd h.si h.rs.rv hl hp he (v := v) (k := k) (by omega) (by omega)
    obtain ⟨D1, k1, k2, k3⟩ := m_lasts h.si hl hp he (v := v) (k := k) (by omega) (by omega)
    have hrel : Rel C2 D1 := Rel_aft h e3 k2 (fun a _ a1 a3 a6 a7 _ _ _ => k3 a a1 a3 a6 a7) (fun j _ _ => by rw [k3 0 (by decide) (by decide) (by decide) (by decide)])
    have hnd := rnF_le (s := D 1) (n := 1) v (fun _ => u3 k (gS (D 1) l)) (D 1 (181 + 10 * p))
    unfold fX9_needs_L55 fX10_needs_L42 fX9_needs_L55b fX10_needs_L42b fX9_needs_B97 fX10_needs_B65 fX10_needs_B81
    rw [if_neg (show ¬ (999 : Int32) < nI k from nI_nlt (a := 999) (by omega) (by omega)), if_neg (show ¬ (999 : Int32) < nI k from nI_nlt (a := 999) (by omega) (by omega)), e1, bd_s, show inb 0 8 = true by decide, gd_t, ix_lit0, c_ahl 0 (by omega), gd_t, lt_e, e2, bd_s, k1, bd_s, show nI k + 1 = nI (k + 1) from nI_1 k]
    by_cases hq : nd (D 1) l p v k = v
    · rw [if_pos (by rw [hq]), decide_eq_true hq, if_pos rfl, if_neg (show ¬ (999 : Int32) < nI k from nI_nlt (a := 999) (by omega) (by omega))]
      exact ⟨_, _, _, rfl, rfl, hrel⟩
    · rw [if_neg (show ¬ nI (nd (D 1) l p v k) = nI v by rw [eq_nI (by have : nd (D 1) l p v k ≤ v := hnd; omega) (by omega)]; exact hq), decide_eq_false hq, if_neg (by decide)]
      exact ih g1 g2 (k + 1) C2 D1 (by omega) (by omega) (by omega) hrel (by unfold nL; rw [k2 0 (by omega)]; exact hl) (by rw [k2 _ (by omega)]; exact he)
theorem op_needs {C D : Mm} (h : Rel C D) (a b : Int32) : Op (fX9_needs a b C) (fX10_needs a b D) := by
  have hFU := FU_big
  have err : Op (fX9_needs_B21 C) (fX10_needs_B18 D) := by
    unfold fX9_needs_B21 fX10_needs_B18
    rw [e_ref1, e_err1]
    exact op_err h (by decide) (by decide)
  unfold fX9_needs fX10_needs
  rw [e_hasLetter, e_isLetter, bd_s, bd_s]
  rcases two_let h a with ⟨l, hl, hl24, rfl, w1, w2⟩ | ⟨w1, w2⟩
  · rw [w1, w2, if_pos rfl, if_pos rfl, e_isWithin, e_in, bd_s, bd_s]
    by_cases hk : wi b 1 30 = true
    · obtain ⟨v, v1, v30, rfl⟩ := wiR (lo := 1) (hi := 30) (by omega) hk (by omega)
      rw [hk, if_pos rfl, if_pos rfl, inb_nI hl24 (by omega), gd_t, ix_nI (by omega), c_let l hl24, gd_t, h.rs.let hl (f := 5) (by omega), e_its5 hl24, bd_s]
      rcases (h.si.2.2.1 l hl).2.2.2.2.2.1 with hp | ⟨p, hp4, hp⟩
      · rw [hp, if_neg (by decide), if_pos rfl, e_ref3, e_err3]
        exact op_err h (by decide) (by decide)
      · rw [hp, if_pos (nI_pos' (by omega)), if_neg (fun e => neg1_ne hp4 e.symm)]
        exact needs_loop hp4 v30 1000 FU FU 0 C D (by omega) (by omega) (by omega) h hl hp
    · rw [if_neg hk, if_neg hk]; exact err
  · rw [w1, w2, if_neg (by decide), if_neg (by decide)]; exact err
-- judge
theorem judge_loop {s0 : Sx} (h0 : SI s0) {p a n : Nat} (hp : p < 4) (ha4 : a < 4) (hn : n ≤ 24) : ∀ (m f1 f2 j : Nat) (C D : Mm) (gs G : Nat → Nat → Int32) (H : Nat → Int32), m < f1 → m < f2 → j + m = n → C (161 + 3 * a) 1 = nI n → D 14 a = nI n → (∀ t, t < n → C (162 + 3 * a) t = D 15 (24 * a + t)) → (∀ t, t < nP s0 p → ∀ f, f < 7 → gs t f = G (pl s0 p t) f) → AC C s0 (nP s0 p) gs (H p) → MS s0 (D 1) G H → ∃ r C' D', fX9_judge_L61 (161 + 3 * a) f1 (nI j) C = some (r, C') ∧ fX10_judge_L41 (nI a) (nI p) f2 (nI j) D = some (r, D') ∧ ScA C C' ∧ EqS (D' 1) (D 3) ∧ ScD D D' := by
  have hcap : aN layC (161 + 3 * a + 1) = 24 := by
    have := a_plr a ha4
    rw [show 162 + 3 * a = 161 + 3 * a + 1 by omega] at this; exact this
  have fin : ∀ (j : Nat) (C D : Mm), ∃ D', fX10_judge_B85 (nI j) D = some (nI j, D') ∧ EqS (D' 1) (D 3) ∧ ScD D D' := fun j C D => by
    obtain ⟨D2, t1, t2, t3⟩ := e_cy_3_1 D
    unfold fX10_judge_B85
    rw [t1, bd_s]
    exact ⟨D2, rfl, t2, fun a a1 _ _ => t3 a a1⟩
  intro m
  induction m with
  | zero =>
    intro f1 f2 j C D gs G H h1 h2 hj pc pd pe hg ha h
    obtain ⟨g1, rfl⟩ : ∃ g, f1 = g + 1 := ⟨f1 - 1, by omega⟩
    obtain ⟨g2, rfl⟩ : ∃ g, f2 = g + 1 := ⟨f2 - 1, by omega⟩
    obtain ⟨D', t1, t2, t3⟩ := fin j C D
    unfold fX9_judge_L61 fX10_judge_L41 fX9_judge_L61b fX10_judge_L41b fX9_judge_B99
    rw [c_plr a ha4, gd_t, pc, if_pos (nI_le (by omega) (by omega)), inb_nI ha4 (by omega), gd_t, ix_nI (by omega), pd, if_pos (nI_le (by omega) (by omega)), t1]
    exact ⟨_, _, _, rfl, rfl, ScA.rf C, t2, t3⟩
  | succ m ih =>
    intro f1 f2 j C D gs G H h1 h2 hj pc pd pe hg ha h
    obtain ⟨g1, rfl⟩ : ∃ g, f1 = g + 1 := ⟨f1 - 1, by omega⟩
    obtain ⟨g2, rfl⟩ : ∃ g, f2 = g + 1 := ⟨f2 - 1, by omega⟩
    obtain ⟨C1, e1, e2⟩ := c_seen h0.tx ha
    obtain ⟨D1, k1, k2⟩ := m_seen h0 hp h
    have eD : D1 1 = D 1 := k2 1 (by decide) (by decide)
    have emn : mnS s0 gs (H p) (nP s0 p) = mnS s0 (fun t => G (pl s0 p t)) (H p) (nP s0 p) := mnS_cg hg _ (Nat.le_refl _)
    rw [emn] at e1
    unfold fX9_judge_L61 fX10_judge_L41 fX9_judge_L61b fX10_judge_L41b fX9_judge_B99
    rw [c_plr a ha4, gd_t, pc, if_neg (nI_ge (by omega) (by omega)), e_at (n := n) (c_plr a ha4) pc (by omega) (by omega), bd_s, if_pos (show j < n by omega), show 161 + 3 * a + 1 = 162 + 3 * a by omega, pe j (by omega), e1, bd_s, inb_nI ha4 (by omega), gd_t, ix_nI (by omega), pd, if_neg (nI_ge (by omega) (by omega)), show ((24 : Int32) * nI a) + nI j = nI (24 * a + j) by rw [← nI_add, ← pk_mul]; rfl, inb_nI (by omega) (by omega), gd_t, ix_nI (by omega), k1, bd_s]
    by_cases hq : D 15 (24 * a + j) = mnS s0 (fun t => G (pl s0 p t)) (H p) (nP s0 p)
    · obtain ⟨C2, l1, l2, l3⟩ := c_pass h0.tx (ha.sc e2)
      obtain ⟨D2, o1, o2, o3⟩ := m_sheet1 (D := D1) h0 hp (by rw [eD]; exact h)
      have cs : ScA C C2 := e2.sa.tr l3
      have ds : ScD D D2 := k2.sd.tr o3
      rw [if_pos hq, if_pos hq, l1, bd_s, o1, bd_s, show nI j + 1 = nI (j + 1) from nI_1 j]
      obtain ⟨r, C', D', s1, s2, s3, s4, s5⟩ := ih g1 g2 (j + 1) C2 D2 (fun t => stL s0 true (gs t)) (gAll s0 p true G) (hUp H p) (by omega) (by omega) (by omega) (by rw [cs _ (by omega) (by omega) (by omega) (by omega) (by omega)]; exact pc) (by rw [ds 14 (by decide) (by decide) (by decide)]; exact pd) (fun t ht => by rw [cs _ (by omega) (by omega) (by omega) (by omega) (by omega), ds 15 (by decide) (by decide) (by decide)]; exact pe t ht) (fun t ht f hf => by rw [gAll_pl h0 hp ht]; exact stL_g (hg t ht) f hf) (by rw [hUp_s]; exact l2) o2
      exact ⟨r, C', D', s1, s2, cs.tr s3, by rw [ds 3 (by decide) (by decide) (by decide)] at s4; exact s4, ds.tr s5⟩
    · obtain ⟨D', t1, t2, t3⟩ := fin j C1 D1
      rw [if_neg hq, if_neg hq, t1]
      exact ⟨_, _, _, rfl, rfl, e2.sa, by rw [k2 3 (by decide) (by decide)] at t2; exact t2, k2.sd.tr t3⟩
theorem op_judge {C D : Mm} (h : Rel C D) (a b : Int32) : Op (fX9_judge a b C) (fX10_judge a b D) := by
  have hFU := FU_big
  have err : Op (fX9_judge_B14 C) (bd (fX10_error 1 D) fun r15 M16 => some (r15, M16)) := by
    unfold fX9_judge_B14
    rw [e_ref1, e_err1]
    exact op_err h (by decide) (by decide)
  unfold fX9_judge fX10_judge fX10_judge_B16
  rw [e_isPlate, bd_s, e_isPage, bd_s, e_lacks, bd_s]
  by_cases hb : wi b 0 3 = true
  · obtain ⟨p, hp, rfl⟩ := wi3 hb
    by_cases ha : wi a 0 3 = true
    · obtain ⟨q, hq, rfl⟩ := wi3 ha
      obtain ⟨n, hn, p1, p2, p3, p4, p5⟩ := h.plt hq
      rw [ha, hb, if_pos rfl, if_pos rfl, if_pos rfl, e_isPageC, bd_s, hb, if_pos rfl, inb_nI hq (by omega), gd_t, ix_nI (by omega), c_plt q hq, gd_t, e_isMissing (c_plt q hq), bd_s, p3]
      by_cases h0 : D 13 q = 0
      · rw [decide_eq_true h0, if_pos rfl, if_pos h0, if_neg (by decide), e_ref2, e_err2]
        exact op_err h (by decide) (by decide)
      · obtain ⟨C1, e1, e2, e3⟩ := c_startp h.si hp h.rs.rv
        obtain ⟨D1, g1, g2, g3⟩ := e_cy_1_3 D
        obtain ⟨r, C2, D2, s1, s2, s3, s4, s5⟩ := judge_loop h.si hp hq hn n FU FU 0 C1 D1 (fun t => gS (D 1) (pl (D 1) p t)) (fun l f => D 1 (12 + 7 * l + f)) (fun p => D 1 (181 + 10 * p)) (by omega) (by omega) (by omega) (by rw [e3 _ (by omega) (by omega) (by omega) (by omega) (by omega)]; exact p2) (by rw [g3 14 (by decide)]; exact p1) (fun t ht => by rw [e3 _ (by omega) (by omega) (by omega) (by omega) (by omega), g3 15 (by decide)]; exact p5 t ht) (fun _ _ _ _ => rfl) e2 (by rw [g3 1 (by decide)]; exact MS.rf h.si)
        rw [show nI 0 = (0 : Int32) from rfl] at s1 s2
        rw [decide_eq_false h0, if_neg (by decide), if_neg h0, if_pos (by decide), f_plt q hq, e1, bd_s, s1, g1, bd_s, s2]
        exact ⟨_, _, _, rfl, rfl, Rel_aft h (e3.tr s3) (s4.tr g2) (fun a _ a1 a3 a6 a7 _ _ _ => by rw [s5 a a1 a6 a7, g3 a a3]) (fun j _ _ => by rw [s5 0 (by decide) (by decide) (by decide), g3 0 (by decide)])⟩
    · rw [if_neg ha, if_pos hb, if_neg ha, if_neg (by decide)]; exact err
  · rw [if_neg hb, if_neg (show ¬ (1 : Int32) ≤ 0 by decide), e_isPageC, bd_s, if_neg hb, ite_self]; exact err
