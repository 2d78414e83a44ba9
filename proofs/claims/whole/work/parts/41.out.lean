/-! PURE 12: texts worked out by the class. -/
theorem l_cells {u : Nat} (hu : u < 2) : isC layC (37 + 5 * u) 1 = true ∧ fR layC (37 + 5 * u) 0 = 38 + 5 * u ∧ fR layC (37 + 5 * u) 1 = 40 + 5 * u ∧ fR layC (37 + 5 * u) 2 = 41 + 5 * u ∧ isC layC (38 + 5 * u) 5 = true ∧ fR layC (38 + 5 * u) 0 = 39 + 5 * u ∧ aN layC (39 + 5 * u) = 60 ∧ aN layC (40 + 5 * u) = 4 ∧ aN layC (41 + 5 * u) = 60 ∧ isN layC (39 + 5 * u) 60 = true ∧ isN layC (40 + 5 * u) 4 = true ∧ isN layC (41 + 5 * u) 60 = true := by
  rcases (show u = 0 ∨ u = 1 by omega) with rfl | rfl <;> decide
theorem sg_lt {v : Int32} (h : isSg v) : -v < -4 ∧ ¬ -v = -33 ∧ - -v = v := by
  refine ⟨?_, ?_, Int32.neg_neg⟩ <;> rcases h with rfl | rfl | rfl | rfl | rfl | rfl | rfl | rfl | rfl | rfl <;> decide
theorem nmi : ∀ i : Fin 4, ¬ (-1 : Int32) - nI i.val < -4 ∧ (-1 : Int32) - nI i.val < 0 ∧ (-1 : Int32) - (-1 - nI i.val) = nI i.val := by decide
theorem out_loop {u : Nat} (hu : u < 2) {s : Sx} {nm : Nat → Int32} (ht : TOK s u) (hpos : 0 < nX s u) : ∀ (m f k : Nat) (C : Mm), m < f → k + m = nX s u → C (38 + 5 * u) 1 = s (292 + 125 * u) → (∀ k, k < nX s u → SR u (C (39 + 5 * u) k) (s (293 + 125 * u + 2 * k)) (s (294 + 125 * u + 2 * k))) → (∀ i, i < nmN u → C (40 + 5 * u) i = nm (ix (nmch u i))) → (∀ j, j < dpt s u k → C (41 + 5 * u) j = stE s u nm k j) →
    Ok (fX1_workOut_L35 (37 + 5 * u) f (nI k) (nI (dpt s u k)) C) (fun r C' => r = evS s u nm ∧ ∀ a, a ≠ 41 + 5 * u → C' a = C a) := by
  have h60 := ht.2.1
  obtain ⟨l1, l2, l3, l4, l5, l6, l7, l8, l9, l10, l11, l12⟩ := l_cells hu
  have hnn : nmN u ≤ 4 := by unfold nmN; split <;> omega
  intro m
  induction m with
  | zero =>
    intro f k C hf hk hc hsr hn hst
    obtain ⟨g, rfl⟩ : ∃ g, f = g + 1 := ⟨f - 1, by omega⟩
    have hkn : k = nX s u := by omega
    have := dpt_pos ht k (by omega) (by omega)
    unfold fX1_workOut_L35 fX1_workOut_L35b fX1_workOut_B196
    simp only [l1, l2, l4, l5, l9, l12, gd_t, hc, ht.1, hkn, if_pos (nI_le (Nat.le_refl (nX s u)) (show nX s u < 2 ^ 31 by omega)), show inb (0 : Int32) 60 = true by decide, ix_lit0]
    refine ok_ret ⟨?_, fun a _ => rfl⟩
    rw [hst 0 (by omega), hkn]
    rfl
  | succ m ih =>
    intro f k C hf hk hc hsr hn hst
    obtain ⟨g, rfl⟩ : ∃ g, f = g + 1 := ⟨f - 1, by omega⟩
    have hd := dpt_le s u k
    have hle : ¬ nI (nX s u) ≤ nI k := nI_ge (by omega) (by omega)
    have h60d : ¬ Int32.ofNat 60 ≤ nI (dpt s u k) := nI_ge (b := 60) (by omega) (by omega)
    unfold fX1_workOut_L35 fX1_workOut_L35b
    rw [l1, gd_t, l2, l5, gd_t, hc, ht.1, if_neg hle, l6, l7, l10, gd_t, inb_nI (n := k) (N := 60) (by omega) (by omega), gd_t, ix_nI (n := k) (by omega), lt_e, l4, l9, l12, gd_t, if_neg h60d, l3, l8, l11, gd_t]
    have step : ∀ (C2 : Mm), (∀ a, a ≠ 41 + 5 * u → C2 a = C a) → (∀ j, j < dpt s u (k + 1) → C2 (41 + 5 * u) j = stE s u nm (k + 1) j) → Ok (fX1_workOut_L35 (37 + 5 * u) g (nI k + 1) (nI (dpt s u (k + 1))) C2) (fun r C' => r = evS s u nm ∧ ∀ a, a ≠ 41 + 5 * u → C' a = C a) := by
      intro C2 h1 h2
      rw [nI_1]
      refine ok_mono (ih g (k + 1) C2 (by omega) (by omega) (by rw [h1 _ (by omega)]; exact hc) (fun i hi => by rw [h1 _ (by omega)]; exact hsr i hi) (fun i hi => by rw [h1 _ (by omega)]; exact hn i hi) h2) (fun r C' q => ⟨q.1, fun a ha => (q.2 a ha).trans (h1 a ha)⟩)
    have hsrk := hsr k (by omega)
    rcases ht.2.2 k (by omega) with hw | ⟨hw, hv⟩ | ⟨hw, hd1⟩ | ⟨hw, hd2, hv⟩
    · have e1 : dpt s u (k + 1) = dpt s u k + 1 := by simp only [dpt]; rw [if_pos (Or.inl hw)]
      have e2 : stE s u nm (k + 1) = upd (stE s u nm k) (dpt s u k) (s (294 + 125 * u + 2 * k)) := by simp only [stE]; rw [if_pos hw]
      have ec : C (39 + 5 * u) k = s (294 + 125 * u + 2 * k) ∧ (0 : Int32) ≤ s (294 + 125 * u + 2 * k) := by
        rcases hsrk with ⟨-, x1, x2⟩ | ⟨x, -⟩ | ⟨x, -⟩ | ⟨x, -⟩
        · exact ⟨x1, x2⟩
        · rw [hw] at x; exact absurd x (by decide)
        · rw [hw] at x; exact absurd x (by decide)
        · rw [hw] at x; exact absurd x (by decide)
      have n1 : ¬ s (294 + 125 * u + 2 * k) < 0 := i32_nlt.mpr ec.2
      have n2 : ¬ s (294 + 125 * u + 2 * k) < -4 := fun z => n1 (by
        rw [Int32.lt_iff_toInt_lt] at *
        have a1 : (-4 : Int32).toInt = -4 := by decide
        have a2 : (0 : Int32).toInt = 0 := by decide
        omega)
      rw [ec.1, if_neg n2, if_neg n1]
      unfold fX1_workOut_B101 fX1_workOut_B190
      rw [l9, l12, gd_t, inb_nI (by omega) (by omega), gd_t, ix_nI (by omega), lt_e, show nI (dpt s u k) + 1 = nI (dpt s u (k + 1)) by rw [e1, nI_1]]
      refine step _ (fun a ha => wr_c ha) (fun j hj => ?_)
      rw [e2, wr_at]; unfold upd
      by_cases ej : j = dpt s u k
      · rw [if_pos ⟨rfl, ej⟩, if_pos ej]
      · rw [if_neg (fun z => ej z.2), if_neg ej]; exact hst j (by omega)
    · have e1 : dpt s u (k + 1) = dpt s u k + 1 := by simp only [dpt]; rw [if_pos (Or.inr hw)]
      have e2 : stE s u nm (k + 1) = upd (stE s u nm k) (dpt s u k) (nm (ix (s (294 + 125 * u + 2 * k)))) := by simp only [stE]; rw [hw, if_neg (by decide), if_pos rfl]
      obtain ⟨i, hi, ec, ev⟩ : ∃ i, i < nmN u ∧ C (39 + 5 * u) k = -1 - nI i ∧ s (294 + 125 * u + 2 * k) = nmch u i := by
        rcases hsrk with ⟨x, -⟩ | ⟨-, i, x1, x2, x3⟩ | ⟨x, -⟩ | ⟨x, -⟩
        · rw [hw] at x; exact absurd x (by decide)
        · exact ⟨i, x1, x2, x3⟩
        · rw [hw] at x; exact absurd x (by decide)
        · rw [hw] at x; exact absurd x (by decide)
      have q := nmi ⟨i, by omega⟩
      dsimp only at q
      rw [ec, if_neg q.1, if_pos q.2.1, q.2.2, inb_nI (by omega) (by omega), gd_t, ix_nI (by omega)]
      unfold fX1_workOut_B101 fX1_workOut_B190
      rw [l9, l12, gd_t, inb_nI (by omega) (by omega), gd_t, ix_nI (n := dpt s u k) (by omega), lt_e, show nI (dpt s u k) + 1 = nI (dpt s u (k + 1)) by rw [e1, nI_1]]
      refine step _ (fun a ha => wr_c ha) (fun j hj => ?_)
      rw [e2, wr_at]; unfold upd
      by_cases ej : j = dpt s u k
      · rw [if_pos ⟨rfl, ej⟩, if_pos ej, ev]; exact hn i hi
      · rw [if_neg (fun z => ej z.2), if_neg ej]; exact hst j (by omega)
    · have e1 : dpt s u (k + 1) = dpt s u k := by simp only [dpt]; rw [hw, if_neg (by decide), if_pos rfl]
      have e2 : stE s u nm (k + 1) = upd (stE s u nm k) (dpt s u k - 1) (if stE s u nm k (dpt s u k - 1) = 0 then 1 else 0) := by simp only [stE]; rw [hw, if_neg (by decide), if_neg (by decide), if_pos rfl]
      have ec : C (39 + 5 * u) k = -33 := by
        rcases hsrk with ⟨x, -⟩ | ⟨x, -⟩ | ⟨-, x⟩ | ⟨x, -⟩
        · rw [hw] at x; exact absurd x (by decide)
        · rw [hw] at x; exact absurd x (by decide)
        · exact x
        · rw [hw] at x; exact absurd x (by decide)
      have n1 : ¬ nI (dpt s u k) < (1 : Int32) := nI_nlt (b := 1) hd1 (by omega)
      rw [ec, if_pos (show (-33 : Int32) < -4 by decide)]
      unfold fX1_workOut_B108
      rw [if_pos rfl, if_neg n1]
      rw [l1, gd_t, l4, l9, l12, gd_t, nI_dm hd1, inb_nI (n := dpt s u k - 1) (N := 60) (by omega) (by omega), gd_t, ix_nI (n := dpt s u k - 1) (by omega), hst _ (by omega)]
      unfold fX1_workOut_B146 fX1_workOut_B190
      rw [l9, l12, gd_t, gd_t, inb_nI (n := dpt s u k - 1) (N := 60) (by omega) (by omega), gd_t, gd_t, ix_nI (n := dpt s u k - 1) (by omega), lt_e, lt_e]
      have fin : ∀ r : Int32, r = (if stE s u nm k (dpt s u k - 1) = 0 then 1 else 0) → Ok (fX1_workOut_L35 (37 + 5 * u) g (nI k + 1) (nI (dpt s u k)) (wr C (41 + 5 * u) (dpt s u k - 1) r)) (fun r C' => r = evS s u nm ∧ ∀ a, a ≠ 41 + 5 * u → C' a = C a) := by
        intro r hr
        have := step (wr C (41 + 5 * u) (dpt s u k - 1) r) (fun a ha => wr_c ha) (fun j hj => by
          rw [e2, wr_at]; unfold upd
          by_cases ej : j = dpt s u k - 1
          · rw [if_pos ⟨rfl, ej⟩, if_pos ej, hr]
          · rw [if_neg (fun z => ej z.2), if_neg ej]; exact hst j (by omega))
        rw [e1] at this; exact this
      by_cases h0 : stE s u nm k (dpt s u k - 1) = 0
      · rw [if_pos h0]; exact fin 1 (by rw [if_pos h0])
      · rw [if_neg h0]; exact fin 0 (by rw [if_neg h0])
    · have e1 : dpt s u (k + 1) = dpt s u k - 1 := by simp only [dpt]; rw [hw, if_neg (by decide), if_neg (by decide)]
      have e2 : stE s u nm (k + 1) = upd (stE s u nm k) (dpt s u k - 2) (jn (s (294 + 125 * u + 2 * k)) (stE s u nm k (dpt s u k - 2)) (stE s u nm k (dpt s u k - 1))) := by simp only [stE]; rw [hw, if_neg (by decide), if_neg (by decide), if_neg (by decide)]
      have ec : C (39 + 5 * u) k = -s (294 + 125 * u + 2 * k) := by
        rcases hsrk with ⟨x, -⟩ | ⟨x, -⟩ | ⟨x, -⟩ | ⟨-, x, -⟩
        · rw [hw] at x; exact absurd x (by decide)
        · rw [hw] at x; exact absurd x (by decide)
        · rw [hw] at x; exact absurd x (by decide)
        · exact x
      have q := sg_lt hv
      have n2 : ¬ nI (dpt s u k) < (2 : Int32) := nI_nlt (b := 2) hd2 (by omega)
      rw [ec, if_pos q.1]
      unfold fX1_workOut_B108 fX1_workOut_B150
      rw [if_neg q.2.1, if_neg n2, q.2.2]
      rw [l1, gd_t, l4, l9, l12, gd_t, nI_dm1 (show 1 ≤ dpt s u k by omega), nI_dm (show 1 ≤ dpt s u k - 1 by omega), inb_nI (n := dpt s u k - 1 - 1) (N := 60) (by omega) (by omega), gd_t, inb_nI (n := dpt s u k - 1) (N := 60) (by omega) (by omega), gd_t, ix_nI (n := dpt s u k - 1) (by omega), ix_nI (n := dpt s u k - 1 - 1) (by omega), e_joinC hv, bd_s, lt_e]
      unfold fX1_workOut_B190
      rw [show dpt s u k - 1 - 1 = dpt s u k - 2 by omega, hst _ (by omega), hst _ (by omega)]
      have := step (wr C (41 + 5 * u) (dpt s u k - 2) (jn (s (294 + 125 * u + 2 * k)) (stE s u nm k (dpt s u k - 2)) (stE s u nm k (dpt s u k - 1)))) (fun a ha => wr_c ha) (fun j hj => by
        rw [e2, wr_at]; unfold upd
        by_cases ej : j = dpt s u k - 2
        · rw [if_pos ⟨rfl, ej⟩, if_pos ej]
        · rw [if_neg (fun z => ej z.2), if_neg ej]; exact hst j (by omega))
      rw [e1] at this
      exact this
theorem o_workOut {u : Nat} (hu : u < 2) {C : Mm} {s : Sx} {nm : Nat → Int32} {a1 a2 a3 a4 : Int32} (ht : TOK s u) (hpos : 0 < nX s u) (hc : C (38 + 5 * u) 1 = s (292 + 125 * u)) (hsr : ∀ k, k < nX s u → SR u (C (39 + 5 * u) k) (s (293 + 125 * u + 2 * k)) (s (294 + 125 * u + 2 * k))) (hn : ∀ i, i < nmN u → ([a1, a2, a3, a4] : List Int32).getD i 0 = nm (ix (nmch u i))) : Ok (fX1_workOut (37 + 5 * u) a1 a2 a3 a4 C) (fun r C' => r = evS s u nm ∧ ∀ a, a ≠ 40 + 5 * u → a ≠ 41 + 5 * u → C' a = C a) := by
  have hFU := FU_big
  have h60 := ht.2.1
  have hnn : nmN u ≤ 4 := by unfold nmN; split <;> omega
  obtain ⟨l1, l2, l3, l4, l5, l6, l7, l8, l9, l10, l11, l12⟩ := l_cells hu
  unfold fX1_workOut
  simp only [l1, l3, l8, l11, gd_t, lt_e, show inb (0 : Int32) 4 = true by decide, show inb (1 : Int32) 4 = true by decide, show inb (2 : Int32) 4 = true by decide, show inb (3 : Int32) 4 = true by decide, ix_lit0, ix_lit1, ix_lit2, ix_lit3]
  have hE : ∀ a, a ≠ 40 + 5 * u → wr (wr (wr (wr C (40 + 5 * u) 0 a1) (40 + 5 * u) 1 a2) (40 + 5 * u) 2 a3) (40 + 5 * u) 3 a4 a = C a := fun a ha => by rw [wr_c ha, wr_c ha, wr_c ha, wr_c ha]
  refine ok_mono (out_loop hu ht hpos (nX s u) FU 0 _ (by omega) (by omega) (by rw [hE _ (by omega)]; exact hc) (fun k hk => by rw [hE _ (by omega)]; exact hsr k hk) (fun i hi => ?_) (fun j hj => by simp only [dpt] at hj; omega)) (fun r C' q => ⟨q.1, fun a h1 h2 => (q.2 a h2).trans (hE a h1)⟩)
  rw [← hn i hi]
  rcases (show i = 0 ∨ i = 1 ∨ i = 2 ∨ i = 3 by omega) with rfl | rfl | rfl | rfl
  · rw [wr_j (by decide), wr_j (by decide), wr_j (by decide), wr_s]; rfl
  · rw [wr_j (by decide), wr_j (by decide), wr_s]; rfl
  · rw [wr_j (by decide), wr_s]; rfl
  · rw [wr_s]; rfl
