/-! PURE 23: what lies ahead: both sides told by one pure telling. -/
theorem stE_congr {s t : Sx} {u n : Nat} (nm : Nat → Int32) (h : ∀ k, k < n → t (293 + 125 * u + 2 * k) = s (293 + 125 * u + 2 * k) ∧ t (294 + 125 * u + 2 * k) = s (294 + 125 * u + 2 * k)) : ∀ k, k ≤ n → stE t u nm k = stE s u nm k
  | 0, _ => rfl
  | k + 1, hk => by
    have ih := stE_congr nm h k (by omega)
    have hd := dpt_congr (s := t) (t := s) (u := u) (n := n) (fun k hk => (h k hk).1) k (by omega)
    simp only [stE, ih, hd, (h k (by omega)).1, (h k (by omega)).2]
def TE (s t : Sx) : Prop := ∀ i, (8 ≤ i ∧ i < 12) ∨ (292 ≤ i ∧ i < 542) → t i = s i
theorem evS_te {s t : Sx} {u : Nat} (hu : u < 2) (h : TE s t) (ht : TOK s u) (nm : Nat → Int32) : evS t u nm = evS s u nm := by
  have h60 := ht.2.1
  have eX : nX t u = nX s u := by unfold nX; rw [h _ (by omega)]
  unfold evS
  rw [eX, stE_congr (n := nX s u) nm (fun k hk => ⟨h _ (by omega), h _ (by omega)⟩) _ (Nat.le_refl _)]
theorem meltL_te {s t : Sx} (h : TE s t) (ht : TX s) {g : Nat → Int32} (hg : LG g) : meltL t g = meltL s g := by
  obtain ⟨k, hk, e⟩ := hg.2.2.2.1
  have ec : coldL t g = coldL s g := by unfold coldL; rw [e, ix_nI (by omega), h _ (by omega)]
  unfold meltL rawL toldL
  rw [ec, h 292 (by omega), evS_te (by omega) h ht.1.1]
theorem seesL_te {s t : Sx} (h : TE s t) (ht : TX s) (g : Nat → Int32) (sh : Int32) : seesL t g sh = seesL s g sh := by
  unfold seesL
  rw [h 417 (by omega), evS_te (by omega) h ht.1.2]
def stL (s : Sx) (a : Bool) (g : Nat → Int32) : Nat → Int32 := fun f => if f = 3 then g 3 - meltL s g else if f = 6 then hd (g 6 + bi a) 0 99 else g f
theorem hd99 {x : Nat} (h : x ≤ 99) (a : Bool) : ∃ k, k ≤ 99 ∧ hd (nI x + bi a) 0 99 = nI k := by
  obtain ⟨b, h1, h2⟩ := hd_rng (nI x + bi a) (i := 99) (by omega)
  exact ⟨b, h1, h2⟩
theorem LG_st {s : Sx} {g : Nat → Int32} (a : Bool) (hg : LG g) : LG (stL s a g) := by
  obtain ⟨⟨k0, h0, e0⟩, ⟨k1, h1, e1⟩, ⟨k3, h3, e3⟩, ⟨k4, h4, e4⟩, ⟨k6, h6, e6⟩⟩ := hg
  obtain ⟨b, hb, eb⟩ := melt_rng (s := s) e3 h3
  refine ⟨⟨k0, h0, e0⟩, ⟨k1, h1, e1⟩, ⟨k3 - b, by omega, ?_⟩, ⟨k4, h4, e4⟩, ?_⟩
  · show g 3 - meltL s g = _
    rw [e3, eb, pk_sub hb]
  · obtain ⟨k, h1, h2⟩ := hd99 h6 a
    refine ⟨k, h1, ?_⟩
    show hd (g 6 + bi a) 0 99 = _
    rw [e6]; exact h2
theorem hd_keep {x : Nat} (h : x ≤ 99) : hd (nI x + bi false) 0 99 = nI x := by
  show hd (nI x + 0) 0 99 = nI x
  rw [Int32.add_zero]; unfold hd
  rw [if_pos (nI_pos' (by omega)), if_pos (show nI x ≤ (99 : Int32) from nI_le (b := 99) h (by omega))]
/-- the reference's row s, beside s0: letters G, sheets H -/
def msx (i : Nat) : Prop := i = 2 ∨ i = 4 ∨ (12 ≤ i ∧ i < 180) ∨ (180 ≤ i ∧ i < 220 ∧ (i - 180) % 10 = 1)
def MS (s0 s : Sx) (G : Nat → Nat → Int32) (H : Nat → Int32) : Prop := SI s ∧ (∀ i, i < 626 → ¬ msx i → s i = s0 i) ∧ (∀ l f, l < nL s0 → f < 7 → s (12 + 7 * l + f) = G l f) ∧ (∀ p, p < 4 → s (181 + 10 * p) = H p) ∧ ∀ l, l < nL s0 → G l 5 = s0 (12 + 7 * l + 5)
theorem MS.rf {s : Sx} (h : SI s) : MS s s (fun l f => s (12 + 7 * l + f)) (fun p => s (181 + 10 * p)) := ⟨h, fun _ _ _ => rfl, fun _ _ _ _ => rfl, fun _ _ => rfl, fun _ _ => rfl⟩
theorem MS.te {s0 s : Sx} {G : Nat → Nat → Int32} {H : Nat → Int32} (h : MS s0 s G H) : TE s0 s := fun i hi => h.2.1 i (by omega) (by unfold msx; omega)
theorem MS.nl {s0 s : Sx} {G : Nat → Nat → Int32} {H : Nat → Int32} (h : MS s0 s G H) : nL s = nL s0 := by unfold nL; rw [h.2.1 0 (by omega) (by unfold msx; omega)]
theorem MS.np {s0 s : Sx} {G : Nat → Nat → Int32} {H : Nat → Int32} (h : MS s0 s G H) {p : Nat} (hp : p < 4) : nP s p = nP s0 p := by unfold nP; rw [h.2.1 _ (by omega) (by unfold msx; omega)]
theorem MS.pr {s0 s : Sx} {G : Nat → Nat → Int32} {H : Nat → Int32} (h : MS s0 s G H) {p j : Nat} (hp : p < 4) (hj : j < 8) : s (182 + 10 * p + j) = s0 (182 + 10 * p + j) := h.2.1 _ (by omega) (by unfold msx; omega)
theorem MS.gs {s0 s : Sx} {G : Nat → Nat → Int32} {H : Nat → Int32} (h : MS s0 s G H) {l : Nat} (hl : l < nL s0) : ∀ f, f < 7 → gS s l f = G l f := fun f hf => h.2.2.1 l f hl hf
theorem MS.lg {s0 s : Sx} {G : Nat → Nat → Int32} {H : Nat → Int32} (h : MS s0 s G H) {l : Nat} (hl : l < nL s0) : LG (G l) := (L_congr (h.gs hl)).2.2.2 (h.1.2.2.1 l (by rw [h.nl]; exact hl)).lg
theorem MS.cg {s0 s : Sx} {G G' : Nat → Nat → Int32} {H H' : Nat → Int32} (h : MS s0 s G H) (hg : ∀ l f, l < nL s0 → f < 7 → G' l f = G l f) (hh : ∀ p, p < 4 → H' p = H p) : MS s0 s G' H' := ⟨h.1, h.2.1, fun l f hl hf => by rw [hg l f hl hf]; exact h.2.2.1 l f hl hf, fun p hp => by rw [hh p hp]; exact h.2.2.2.1 p hp, fun l hl => by rw [hg l 5 hl (by omega)]; exact h.2.2.2.2 l hl⟩
/-- cells of the reference that the telling leaves -/
def ScD (D D' : Mm) : Prop := ∀ a, a ≠ 1 → a ≠ 6 → a ≠ 7 → D' a = D a
theorem ScD.rf (D : Mm) : ScD D D := fun _ _ _ _ => rfl
theorem ScD.tr {A B C : Mm} (h : ScD A B) (h2 : ScD B C) : ScD A C := fun a h1 h3 h4 => (h2 a h1 h3 h4).trans (h a h1 h3 h4)
theorem ScM.sd {D D' : Mm} (h : ScM D D') : ScD D D' := fun a _ h6 h7 => h a h6 h7
theorem m_step {D : Mm} (hs : SI (D 1)) {l : Nat} (hl : l < nL (D 1)) (a : Bool) : ∃ D', (∀ (β : Type) (q : Mm → Option (β × Mm)), (bd (fX10_melts (nI l) D) fun r5 M6 => bd (fX10_its (nI l) 3 M6) fun r7 M8 => bd (fX10_lays1 (nI l) 3 (r7 - r5) M8) fun _ M10 => bd (fX10_drips r5 M10) fun _ M12 => bd (fX10_its (nI l) 6 M12) fun r13 M14 => bd (fX10_held (r13 + bi a) 0 99 M14) fun r15 M16 => bd (fX10_lays1 (nI l) 6 r15 M16) fun _ M18 => q M18) = q D') ∧ SI (D' 1) ∧ (∀ f, f < 7 → D' 1 (12 + 7 * l + f) = stL (D 1) a (gS (D 1) l) f) ∧ (∀ i, i ≠ 2 → i ≠ 4 → ¬ (12 + 7 * l ≤ i ∧ i < 19 + 7 * l) → D' 1 i = D 1 i) ∧ ScD D D' := by
  have hL := hs.l24
  have hl24 : l < 24 := by omega
  have hlok := hs.2.2.1 l hl
  obtain ⟨r, D1, e1, e2, e3⟩ := o_meltsM (show l < 24 by omega) hs.tx hlok.lg
  have eD : D1 1 = D 1 := e3 1 (by decide) (by decide)
  obtain ⟨i, hi, ei⟩ := hlok.2.2.2.1
  obtain ⟨ag, hag, eag⟩ := hlok.2.2.2.2.2.2
  obtain ⟨b, hb, eb⟩ := melt_rng (s := D 1) (g := gS (D 1) l) (i := i) ei hi
  obtain ⟨wt, hwt, ewt⟩ := hs.water
  obtain ⟨ak, hak, eak⟩ := hd99 hag a
  have hwD : (wr D1 1 (12 + 7 * l + 3) (nI (i - b))) 1 2 = nI wt := by rw [wr_at, if_neg (by omega), eD]; exact ewt
  refine ⟨wr (wr (wr (wr D1 1 (12 + 7 * l + 3) (nI (i - b))) 1 2 (nI (min (wt + b) 99999))) 1 4 ((wr D1 1 (12 + 7 * l + 3) (nI (i - b))) 1 4 + nI (wt + b - min (wt + b) 99999))) 1 (12 + 7 * l + 6) (nI ak), fun β q => ?_, ?_⟩
  · rw [e1, e2, eb, bd_s, e_its3 hl24, bd_s, eD, ei, pk_sub hb, e_lays3 hl24, bd_s, e_dripM hwD hwt (by omega), bd_s, e_its6 hl24, bd_s, wr_at, if_neg (by omega), wr_at, if_neg (by omega), wr_at, if_neg (by omega), eD, eag, e_held, bd_s, eak, e_lays6 hl24, bd_s]
  generalize (wr D1 1 (12 + 7 * l + 3) (nI (i - b))) 1 4 + nI (wt + b - min (wt + b) 99999) = w4
  have hat : ∀ j, wr (wr (wr (wr D1 1 (12 + 7 * l + 3) (nI (i - b))) 1 2 (nI (min (wt + b) 99999))) 1 4 w4) 1 (12 + 7 * l + 6) (nI ak) 1 j = if j = 12 + 7 * l + 6 then nI ak else if j = 4 then w4 else if j = 2 then nI (min (wt + b) 99999) else if j = 12 + 7 * l + 3 then nI (i - b) else D 1 j := fun j => by
    simp only [wr_at, true_and, eD]
  have hfr : ∀ c, c ≠ 1 → wr (wr (wr (wr D1 1 (12 + 7 * l + 3) (nI (i - b))) 1 2 (nI (min (wt + b) 99999))) 1 4 w4) 1 (12 + 7 * l + 6) (nI ak) c = D1 c := fun c hc => by rw [wr_c hc, wr_c hc, wr_c hc, wr_c hc]
  generalize wr (wr (wr (wr D1 1 (12 + 7 * l + 3) (nI (i - b))) 1 2 (nI (min (wt + b) 99999))) 1 4 w4) 1 (12 + 7 * l + 6) (nI ak) = D' at hat hfr ⊢
  have hel : ∀ j, j ≠ 2 → j ≠ 4 → j ≠ 12 + 7 * l + 3 → j ≠ 12 + 7 * l + 6 → D' 1 j = D 1 j := fun j j1 j2 j3 j4 => by rw [hat, if_neg j4, if_neg j2, if_neg j1, if_neg j3]
  have h3 : D' 1 (12 + 7 * l + 3) = nI (i - b) := by rw [hat, if_neg (by omega), if_neg (by omega), if_neg (by omega), if_pos rfl]
  have h6 : D' 1 (12 + 7 * l + 6) = nI ak := by rw [hat, if_pos rfl]
  have h2 : D' 1 2 = nI (min (wt + b) 99999) := by rw [hat, if_neg (by omega), if_neg (by omega), if_pos rfl]
  refine ⟨SI_soft hs (fun q hq hn => ?_) ⟨by rw [h2]; exact ⟨nI_pos' (by omega), nI_le (b := 99999) (by omega) (by omega)⟩, by rw [hel 3 (by omega) (by omega) (by omega) (by omega)]; exact hs.2.1.2.1, fun r hr => by rw [hel _ (by omega) (by omega) (by omega) (by omega)]; exact hs.2.1.2.2 r hr⟩ (fun k hk => ?_), fun f hf => ?_, fun j j1 j2 j3 => hel j j1 j2 (by omega) (by omega), fun c c1 c6 c7 => by rw [hfr c c1, e3 c c6 c7]⟩
  · unfold softI at hn
    exact hel q (by omega) (by omega) (by omega) (by omega)
  · by_cases e : k = l
    · subst e
      obtain ⟨⟨y0, z0⟩, ⟨y1, z1⟩, ⟨y2, z2⟩, -, ⟨y4, z4⟩, y5, -⟩ := hlok
      refine ⟨⟨y0, z0.1, by rw [hel _ (by omega) (by omega) (by omega) (by omega)]; exact z0.2⟩, ⟨y1, z1.1, by rw [hel _ (by omega) (by omega) (by omega) (by omega)]; exact z1.2⟩, ⟨y2, z2.1, z2.2.1, by rw [hel _ (by omega) (by omega) (by omega) (by omega)]; exact z2.2.2⟩, ⟨i - b, by omega, h3⟩, ⟨y4, z4.1, by rw [hel _ (by omega) (by omega) (by omega) (by omega)]; exact z4.2⟩, by rw [hel _ (by omega) (by omega) (by omega) (by omega)]; exact y5, ⟨ak, hak, h6⟩⟩
    · exact LOK_congr (fun f hf => (hel _ (by omega) (by omega) (by omega) (by omega)).symm) (hs.2.2.1 k hk)
  · unfold stL
    by_cases f3 : f = 3
    · subst f3
      rw [if_pos rfl, h3, eb, show gS (D 1) l 3 = nI i from ei, pk_sub hb]
    · rw [if_neg f3]
      by_cases f6 : f = 6
      · subst f6
        rw [if_pos rfl, h6, show gS (D 1) l 6 = nI ag from eag, eak]
      · rw [if_neg f6, hel _ (by omega) (by omega) (by omega) (by omega)]; rfl
theorem stL_g {s : Sx} {a : Bool} {g g2 : Nat → Int32} (h : ∀ f, f < 7 → g f = g2 f) : ∀ f, f < 7 → stL s a g f = stL s a g2 f := fun f hf => by
  unfold stL; rw [(L_congr h).1 s, h 3 (by omega), h 6 (by omega), h f hf]
theorem stL_te {s t : Sx} {a : Bool} {g : Nat → Int32} (h : TE s t) (ht : TX s) (hg : LG g) : stL t a g = stL s a g := by
  unfold stL; rw [meltL_te h ht hg]
def pl (s : Sx) (p j : Nat) : Nat := ix (s (182 + 10 * p + j))
theorem SI.plx {s : Sx} (hs : SI s) {p j : Nat} (hp : p < 4) (hj : j < nP s p) : pl s p j < nL s ∧ s (182 + 10 * p + j) = nI (pl s p j) ∧ s (12 + 7 * pl s p j + 5) = nI p ∧ j < 8 := by
  obtain ⟨l, b1, b2, b3⟩ := (hs.pag hp).2.2.1 j hj
  have hL := hs.l24
  have h8 := (hs.pag hp).2.1
  have e : pl s p j = l := by unfold pl; rw [b2, ix_nI (by omega)]
  rw [e]; exact ⟨b1, b2, b3, by omega⟩
theorem m_all_loop {s0 : Sx} (h0 : SI s0) {p : Nat} (hp : p < 4) (a : Bool) {H : Nat → Int32} : ∀ (m f j : Nat) (D : Mm) (G : Nat → Nat → Int32), m < f → j + m = nP s0 p → MS s0 (D 1) G H → ∃ D' G', fX10_meltsAll_L2 (nI p) (bi a) f (nI j) D = some ((), D') ∧ MS s0 (D' 1) G' H ∧ (∀ t, j ≤ t → t < nP s0 p → ∀ f, f < 7 → G' (pl s0 p t) f = stL s0 a (G (pl s0 p t)) f) ∧ (∀ l, l < nL s0 → (∀ t, j ≤ t → t < nP s0 p → pl s0 p t ≠ l) → ∀ f, f < 7 → G' l f = G l f) ∧ ScD D D' := by
  have h8 := (h0.pag hp).2.1
  intro m
  induction m with
  | zero =>
    intro f j D G h1 hj h
    obtain ⟨g, rfl⟩ : ∃ g, f = g + 1 := ⟨f - 1, by omega⟩
    unfold fX10_meltsAll_L2 fX10_meltsAll_L2b fX10_meltsAll_B83
    rw [e_of0 hp, bd_s, (h.1.pag hp).1, h.np hp, if_pos (nI_le (by omega) (by omega))]
    exact ⟨D, G, rfl, h, fun t t1 t2 => by omega, fun _ _ _ _ _ => rfl, ScD.rf D⟩
  | succ m ih =>
    intro f j D G h1 hj h
    obtain ⟨g, rfl⟩ : ∃ g, f = g + 1 := ⟨f - 1, by omega⟩
    obtain ⟨b1, b2, b3, b4⟩ := h0.plx hp (j := j) (by omega)
    have hl : pl s0 p j < nL (D 1) := by rw [h.nl]; exact b1
    obtain ⟨D1, e1, e2, e3, e4, e5⟩ := m_step h.1 hl a
    unfold fX10_meltsAll_L2 fX10_meltsAll_L2b
    rw [e_of0 hp, bd_s, (h.1.pag hp).1, h.np hp, if_neg (nI_ge (by omega) (by omega)), e_ofR hp b4, bd_s, h.pr hp b4, b2, e1, show nI j + 1 = nI (j + 1) from nI_1 j]
    have hL := h0.l24
    have hms : MS s0 (D1 1) (fun l => if l = pl s0 p j then stL s0 a (G l) else G l) H := by
      refine ⟨e2, fun i hi hx => ?_, fun l f hl hf => ?_, fun q hq => ?_, fun l hl => ?_⟩
      · unfold msx at hx
        rw [e4 i (by omega) (by omega) (by omega)]; exact h.2.1 i hi (by unfold msx; exact hx)
      · dsimp only
        by_cases e : l = pl s0 p j
        · rw [if_pos e, e, e3 f hf, stL_te h.te h0.tx ((L_congr (h.gs b1)).2.2.2 (h.1.2.2.1 _ (by rw [h.nl]; exact b1)).lg |> fun z => (h.1.2.2.1 _ (by rw [h.nl]; exact b1)).lg)]
          exact stL_g (h.gs b1) f hf
        · rw [if_neg e, e4 _ (by omega) (by omega) (by omega)]; exact h.2.2.1 l f hl hf
      · rw [e4 _ (by omega) (by omega) (by omega)]; exact h.2.2.2.1 q hq
      · dsimp only
        by_cases e : l = pl s0 p j
        · rw [if_pos e]; show G l 5 = _; exact h.2.2.2.2 l hl
        · rw [if_neg e]; exact h.2.2.2.2 l hl
    obtain ⟨D', G', s1, s2, s3, s4, s5⟩ := ih g (j + 1) D1 _ (by omega) (by omega) hms
    have hinj : ∀ t, t < nP s0 p → pl s0 p t = pl s0 p j → t = j := fun t ht e => by
      obtain ⟨c1, c2, c3, c4⟩ := h0.plx hp ht
      exact (h0.pag hp).2.2.2 t j ht (by omega) (by rw [c2, b2, e])
    refine ⟨D', G', s1, s2, fun t t1 t2 f hf => ?_, fun l hl hn f hf => ?_, e5.tr s5⟩
    · by_cases e : t = j
      · subst e
        rw [s4 _ b1 (fun t' x1 x2 x3 => by have := hinj t' x2 x3; omega) f hf, if_pos rfl]
      · rw [s3 t (by omega) t2 f hf, if_neg (fun x => e (hinj t t2 x))]
    · rw [s4 l hl (fun t x1 x2 => hn t (by omega) x2) f hf, if_neg (fun x => hn j (by omega) (by omega) x.symm)]
theorem pg_iff {s : Sx} (hs : SI s) {p l : Nat} (hp : p < 4) (hl : l < nL s) (h : s (12 + 7 * l + 5) = nI p) : ∃ t, t < nP s p ∧ pl s p t = l := by
  obtain ⟨j, h1, h2⟩ := hs.2.2.2.1.2 l p hl hp h
  have hL := hs.l24
  exact ⟨j, h1, by unfold pl; rw [h2, ix_nI (by omega)]⟩
/-- page p melts: what letters become -/
def gAll (s0 : Sx) (p : Nat) (a : Bool) (G : Nat → Nat → Int32) : Nat → Nat → Int32 := fun l => if s0 (12 + 7 * l + 5) = nI p then stL s0 a (G l) else G l
theorem m_all {s0 : Sx} (h0 : SI s0) {p : Nat} (hp : p < 4) (a : Bool) {H : Nat → Int32} {D : Mm} {G : Nat → Nat → Int32} (h : MS s0 (D 1) G H) : ∃ D', fX10_meltsAll (nI p) (bi a) D = some ((), D') ∧ MS s0 (D' 1) (gAll s0 p a G) H ∧ ScD D D' := by
  have hFU := FU_big
  have h8 := (h0.pag hp).2.1
  obtain ⟨D', G', s1, s2, s3, s4, s5⟩ := m_all_loop h0 hp a (nP s0 p) FU 0 D G (by omega) (by omega) h
  refine ⟨D', s1, s2.cg (fun l f hl hf => ?_) (fun _ _ => rfl), s5⟩
  unfold gAll
  by_cases e : s0 (12 + 7 * l + 5) = nI p
  · obtain ⟨t, t1, t2⟩ := pg_iff h0 hp hl e
    rw [if_pos e, ← t2, s3 t (by omega) t1 f hf]
  · rw [if_neg e, s4 l hl (fun t x1 x2 x3 => e (by
      obtain ⟨c1, c2, c3, c4⟩ := h0.plx hp x2
      rw [← x3]; exact c3)) f hf]
/-- the least seen of n letters -/
def mnS (s : Sx) (gs : Nat → Nat → Int32) (sh : Int32) : Nat → Int32
  | 0 => 9
  | k + 1 => if seesL s (gs k) sh < mnS s gs sh k then seesL s (gs k) sh else mnS s gs sh k
theorem mnS_cg {s : Sx} {gs gs2 : Nat → Nat → Int32} {sh : Int32} {n : Nat} (h : ∀ k, k < n → ∀ f, f < 7 → gs k f = gs2 k f) : ∀ k, k ≤ n → mnS s gs sh k = mnS s gs2 sh k
  | 0, _ => rfl
  | k + 1, hk => by
    have ih := mnS_cg (s := s) (sh := sh) h k (by omega)
    simp only [mnS, ih, (L_congr (h k (by omega))).2.2.1 s sh]
theorem m_seen_loop {s0 : Sx} (h0 : SI s0) {p : Nat} (hp : p < 4) {H : Nat → Int32} {G : Nat → Nat → Int32} : ∀ (m f j : Nat) (D : Mm), m < f → j + m = nP s0 p → MS s0 (D 1) G H → ∃ D', fX10_seen_L5 (nI p) f (nI j) (mnS s0 (fun t => G (pl s0 p t)) (H p) j) D = some (mnS s0 (fun t => G (pl s0 p t)) (H p) (nP s0 p), D') ∧ ScM D D' := by
  have h8 := (h0.pag hp).2.1
  intro m
  induction m with
  | zero =>
    intro f j D h1 hj h
    obtain ⟨g, rfl⟩ : ∃ g, f = g + 1 := ⟨f - 1, by omega⟩
    have ej : j = nP s0 p := by omega
    unfold fX10_seen_L5 fX10_seen_L5b fX10_seen_B48
    rw [e_of0 hp, bd_s, (h.1.pag hp).1, h.np hp, if_pos (nI_le (by omega) (by omega)), ej]
    exact ⟨D, rfl, ScM.rf D⟩
  | succ m ih =>
    intro f j D h1 hj h
    obtain ⟨g, rfl⟩ : ∃ g, f = g + 1 := ⟨f - 1, by omega⟩
    obtain ⟨b1, b2, b3, b4⟩ := h0.plx hp (j := j) (by omega)
    have hl : pl s0 p j < nL (D 1) := by rw [h.nl]; exact b1
    obtain ⟨D1, e1, e2⟩ := m_sees h.1 hl
    have eD : D1 1 = D 1 := e2 1 (by decide) (by decide)
    have e5 : D 1 (12 + 7 * pl s0 p j + 5) = nI p := by rw [h.2.2.1 _ 5 b1 (by omega), h.2.2.2.2 _ b1, b3]
    have esh : shS (D 1) (pl s0 p j) = H p := by
      unfold shS
      rw [e5, if_neg (fun e => neg1_ne hp e.symm), ix_nI (by omega), h.2.2.2.1 p hp]
    have ev : seesL (D 1) (gS (D 1) (pl s0 p j)) (H p) = seesL s0 (G (pl s0 p j)) (H p) := by
      rw [seesL_te h.te h0.tx, (L_congr (h.gs b1)).2.2.1]
    unfold fX10_seen_L5 fX10_seen_L5b fX10_seen_B41
    rw [e_of0 hp, bd_s, (h.1.pag hp).1, h.np hp, if_neg (nI_ge (by omega) (by omega)), e_ofR hp b4, bd_s, h.pr hp b4, b2, e1, bd_s, esh, ev, show nI j + 1 = nI (j + 1) from nI_1 j]
    obtain ⟨D', s1, s2⟩ := ih g (j + 1) D1 (by omega) (by omega) (by rw [eD]; exact h)
    simp only [mnS] at s1
    refine ⟨D', ?_, e2.tr s2⟩
    rw [← s1]
    by_cases hle : mnS s0 (fun t => G (pl s0 p t)) (H p) j ≤ seesL s0 (G (pl s0 p j)) (H p)
    · rw [if_pos hle, if_neg (i32_nlt.mpr hle)]
    · rw [if_neg hle, if_pos (i32_nle.mp hle)]
theorem m_seen {s0 : Sx} (h0 : SI s0) {p : Nat} (hp : p < 4) {H : Nat → Int32} {G : Nat → Nat → Int32} {D : Mm} (h : MS s0 (D 1) G H) : ∃ D', fX10_seen (nI p) D = some (mnS s0 (fun t => G (pl s0 p t)) (H p) (nP s0 p), D') ∧ ScM D D' := by
  have hFU := FU_big
  have h8 := (h0.pag hp).2.1
  exact m_seen_loop h0 hp (nP s0 p) FU 0 D (by omega) (by omega) h
def hUp (H : Nat → Int32) (p : Nat) : Nat → Int32 := fun q => if q = p then H q + 1 else H q
theorem m_sheet1 {s0 : Sx} (h0 : SI s0) {p : Nat} (hp : p < 4) {H : Nat → Int32} {G : Nat → Nat → Int32} {D : Mm} (h : MS s0 (D 1) G H) : ∃ D', fX10_sheet1 (nI p) D = some (if mnS s0 (fun t => G (pl s0 p t)) (H p) (nP s0 p) < 3 then 0 else 1, D') ∧ MS s0 (D' 1) (gAll s0 p true G) (hUp H p) ∧ ScD D D' := by
  obtain ⟨D1, e1, e2⟩ := m_seen h0 hp h
  have eD : D1 1 = D 1 := e2 1 (by decide) (by decide)
  obtain ⟨D2, f1, f2, f3⟩ := m_all (D := D1) h0 hp true (by rw [eD]; exact h)
  have ei : ((180 : Int32) + ((10 : Int32) * nI p)) + (1 : Int32) = nI (181 + 10 * p) := by
    have := x_pag p 1
    rw [show 180 + 10 * p + 1 = 181 + 10 * p by omega] at this; exact this
  have fin : ∀ w : Int32, fX10_sheet1_B14 (nI p) w D1 = some (w, wr D2 1 (181 + 10 * p) (D2 1 (181 + 10 * p) + 1)) := fun w => by
    unfold fX10_sheet1_B14
    rw [show fX10_meltsAll (nI p) 1 D1 = some ((), D2) from f1, bd_s, ei, inb_nI (by omega) (by omega), gd_t, ix_nI (by omega), lt_e]
  have hms : MS s0 (wr D2 1 (181 + 10 * p) (D2 1 (181 + 10 * p) + 1) 1) (gAll s0 p true G) (hUp H p) := by
    have hL := h0.l24
    have hE : ∀ i, i ≠ 181 + 10 * p → wr D2 1 (181 + 10 * p) (D2 1 (181 + 10 * p) + 1) 1 i = D2 1 i := fun i hi => by rw [wr_at, if_neg (by omega)]
    refine ⟨SI_soft f2.1 (fun q hq hn => hE q (fun e => hn (by unfold softI; omega))) ⟨by rw [hE 2 (by omega)]; exact f2.1.2.1.1, by rw [hE 3 (by omega)]; exact f2.1.2.1.2.1, fun r hr => by rw [hE _ (by omega)]; exact f2.1.2.1.2.2 r hr⟩ (fun k hk => LOK_congr (fun f hf => (hE _ (by have := f2.1.l24; omega)).symm) (f2.1.2.2.1 k hk)), fun i hi hx => ?_, fun l f hl hf => ?_, fun q hq => ?_, f2.2.2.2.2⟩
    · rw [hE i (fun e => hx (by unfold msx; omega))]; exact f2.2.1 i hi hx
    · rw [hE _ (by omega)]; exact f2.2.2.1 l f hl hf
    · unfold hUp
      by_cases e : q = p
      · rw [if_pos e, e, wr_s, f2.2.2.2.1 p hp]
      · rw [if_neg e, hE _ (by omega)]; exact f2.2.2.2.1 q hq
  have hsc : ScD D (wr D2 1 (181 + 10 * p) (D2 1 (181 + 10 * p) + 1)) := fun a a1 a6 a7 => by rw [wr_c a1, f3 a a1 a6 a7, e2 a a6 a7]
  unfold fX10_sheet1
  rw [e1, bd_s, fin, fin]
  refine ⟨_, ?_, hms, hsc⟩
  by_cases hlt : mnS s0 (fun t => G (pl s0 p t)) (H p) (nP s0 p) < 3
  · rw [if_pos hlt, if_pos hlt]
  · rw [if_neg hlt, if_neg hlt]
