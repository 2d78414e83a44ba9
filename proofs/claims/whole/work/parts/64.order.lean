/-! PURE 35: order. -/
theorem enum_ne : ∀ b0 b1 b2 b3 : Bool, enumR (fF b0 b1 b2 b3) (flL (fF b0 b1 b2 b3)).length [] ≠ [] := by decide +kernel
theorem fold_some {s : Sx} {v n : Nat} : ∀ (L : List (List Nat)) (b : Option (Nat × List Nat)), (L ≠ [] ∨ b ≠ none) → L.foldl (upS s v n) b ≠ none
  | [], b, h => by
    rcases h with h | h
    · exact absurd rfl h
    · exact h
  | r :: L, b, _ => by
    rw [List.foldl_cons]
    refine fold_some L _ (Or.inr ?_)
    unfold upS
    cases b with
    | none => exact fun e => by cases e
    | some q =>
      obtain ⟨y, r'⟩ := q
      dsimp only
      split
      · exact fun e => by cases e
      · exact fun e => by cases e
theorem Rel_aftB {C C' D D' : Mm} (h : Rel C D) (hc : ScB C C') (he : EqS (D' 1) (D 1)) (hd : ∀ a, a ≠ 0 → a ≠ 1 → a ≠ 3 → a ≠ 6 → a ≠ 7 → a ≠ 9 → a ≠ 10 → a ≠ 11 → D' a = D a) (h0 : ∀ j, j ≠ 15 → j ≠ 16 → D' 0 j = D 0 j) : Rel C' D' := by
  refine Rel_now h (SI_congr he.sy h.si) (RS_congr he.sy h.si (RS_frame h.si (fun a ha => hc a (by unfold shc at ha; omega) (by unfold shc at ha; omega) (by unfold shc at ha; omega) (by unfold shc at ha; omega) (by unfold shc at ha; omega)) h.rs)) (fun a ha => hc a (by omega) (by omega) (by omega) (by omega) (by omega)) ⟨hd 2 (by omega) (by omega) (by omega) (by omega) (by omega) (by omega) (by omega) (by omega), hd 4 (by omega) (by omega) (by omega) (by omega) (by omega) (by omega) (by omega) (by omega), hd 12 (by omega) (by omega) (by omega) (by omega) (by omega) (by omega) (by omega) (by omega), hd 13 (by omega) (by omega) (by omega) (by omega) (by omega) (by omega) (by omega) (by omega), hd 14 (by omega) (by omega) (by omega) (by omega) (by omega) (by omega) (by omega) (by omega), hd 15 (by omega) (by omega) (by omega) (by omega) (by omega) (by omega) (by omega) (by omega), h0 3 (by omega) (by omega), h0 19 (by omega) (by omega)⟩
theorem m_count {s0 : Sx} (h0 : SI s0) (v w : Int32) : ∀ (m f p : Nat) (D : Mm), m < f → p + m = 4 → D 1 = s0 → D 0 15 = nI ((List.range p).filter (Fs s0)).length → ∃ D', fX10_order_L28 v w f (nI p) D = fX10_order_B62 v w D' ∧ D' 0 15 = nI (flL (Fs s0)).length ∧ (∀ a, a ≠ 0 → D' a = D a) ∧ ∀ j, j ≠ 15 → D' 0 j = D 0 j := by
  intro m
  induction m with
  | zero =>
    intro f p D hf hp h1 h15
    obtain ⟨g, rfl⟩ : ∃ g, f = g + 1 := ⟨f - 1, by omega⟩
    have e : p = 4 := by omega
    subst e
    unfold fX10_order_L28 fX10_order_L28b
    rw [if_pos (by decide)]
    exact ⟨D, rfl, h15, fun _ _ => rfl, fun _ _ => rfl⟩
  | succ m ih =>
    intro f p D hf hp h1 h15
    obtain ⟨g, rfl⟩ : ∃ g, f = g + 1 := ⟨f - 1, by omega⟩
    have hp4 : p < 4 := by omega
    have h8 := (h0.pag hp4).2.1
    have efil : ((List.range (p + 1)).filter (Fs s0)).length = ((List.range p).filter (Fs s0)).length + (if Fs s0 p = true then 1 else 0) := by
      rw [List.range_succ, List.filter_append, List.length_append]
      congr 1
      rw [List.filter_cons]
      split <;> rfl
    unfold fX10_order_L28 fX10_order_L28b fX10_order_B52
    rw [if_neg (show ¬ (4 : Int32) ≤ nI p from nI_ge (b := 4) (by omega) (by omega)), e_of0 hp4, bd_s, h1, (h0.pag hp4).1, h15, lt_e, lt_e, show nI p + 1 = nI (p + 1) from nI_1 p]
    have go : ∀ x, x = nI ((List.range (p + 1)).filter (Fs s0)).length → ∃ D', fX10_order_L28 v w g (nI (p + 1)) (wr D 0 15 x) = fX10_order_B62 v w D' ∧ D' 0 15 = nI (flL (Fs s0)).length ∧ (∀ a, a ≠ 0 → D' a = D a) ∧ ∀ j, j ≠ 15 → D' 0 j = D 0 j := fun x hx => by
      obtain ⟨D', s1, s2, s3, s4⟩ := ih g (p + 1) (wr D 0 15 x) (by omega) (by omega) (by rw [wr_c (by decide)]; exact h1) (by rw [wr_s]; exact hx)
      exact ⟨D', s1, s2, fun a ha => by rw [s3 a ha, wr_c ha], fun j hj => by rw [s4 j hj, wr_j hj]⟩
    by_cases hz : nP s0 p = 0
    · have hF : ¬ Fs s0 p = true := by rw [Fs_at hp4]; simp [hz]
      rw [if_neg hF] at efil
      rw [if_pos (by rw [hz]; decide)]
      exact go _ (by rw [Int32.add_zero, efil]; rfl)
    · have hF : Fs s0 p = true := by rw [Fs_at hp4]; simp; omega
      rw [if_pos hF] at efil
      rw [if_neg (show ¬ nI (nP s0 p) ≤ 0 from nI_ge (a := 0) (by omega) (by omega))]
      exact go _ (by rw [efil, nI_1])
theorem c_find {s : Sx} {v : Nat} (hv : v ≤ 20) {C : Mm} (h1 : rowIs C 147 (flL (Fs s))) (h2 : C 149 1 = nI ((flL (Fs s)).length * (flL (Fs s)).length)) (h3 : ∀ j, j < (flL (Fs s)).length * (flL (Fs s)).length → C 150 j = nI (tabF s v (flL (Fs s)).length (flL (Fs s)) j)) : ∃ y c C', fX6_findBest C = some ((), C') ∧ (enumR (Fs s) (flL (Fs s)).length []).foldl (upS s v (flL (Fs s)).length) none = some (y, rowC (Fs s) (flL (Fs s)).length c) ∧ C' 146 5 = nI y ∧ y ≤ 80 ∧ rowIs C' 151 (rowC (Fs s) (flL (Fs s)).length c) ∧ ScB C C' := by
  have hFU := FU_big
  have hn4 := flL_len (Fs s)
  obtain ⟨hp1, hp2⟩ := pow_all ⟨(flL (Fs s)).length, by omega⟩
  dsimp only at hp1 hp2
  obtain ⟨C1, w, e1, e2, e3⟩ := c_best_loop (s := s) hn4 hv (Fs s) (4 ^ (flL (Fs s)).length) FU 0 none 0 (wr C 146 5 (-1)) (by omega) (by omega) (by rw [wr_c (by decide)]; exact h2) (fun j hj => by rw [wr_c (by decide)]; exact h3 j hj) ⟨wr_s, rfl⟩
  have hm := fold_mp (s := s) (v := v) (n := (flL (Fs s)).length) (F := Fs s) (List.range' 0 (4 ^ (flL (Fs s)).length)) none
  rw [← List.range_eq_range'] at hm e2
  rw [show mpC (Fs s) (flL (Fs s)).length none = none from rfl] at hm
  have hen : enumR (Fs s) (flL (Fs s)).length [] = ((List.range (4 ^ (flL (Fs s)).length)).filter fun c => okc (flL (Fs s)).length c (flL (Fs s)).length 0 0).map (rowC (Fs s) (flL (Fs s)).length) := enum_all _ _ _ _
  rw [← hen] at hm
  have hne := fold_some (s := s) (v := v) (n := (flL (Fs s)).length) (enumR (Fs s) (flL (Fs s)).length []) none (Or.inl (enum_ne _ _ _ _))
  cases hb : (List.range (4 ^ (flL (Fs s)).length)).foldl (upC s v (flL (Fs s)).length (Fs s)) none with
  | none =>
    rw [hb] at hm
    exact absurd hm.symm hne
  | some q =>
    obtain ⟨y, c⟩ := q
    rw [hb] at hm e2
    obtain ⟨b1, b2, b3, b4⟩ := e2
    obtain ⟨C2, f1, f2, f3⟩ := c_last (c := c) (F := Fs s) rfl b4 (flL (Fs s)).length FU 0 (wr C1 151 1 0) (by omega) (by omega) (h1.fr (by rw [wr_c (by decide), e3 147 (by decide), wr_c (by decide)]) (by rw [wr_c (by decide), e3 148 (by decide), wr_c (by decide)])) (by
      rw [List.take_zero]
      exact ⟨wr_s, fun j hj => by simp at hj⟩)
    rw [show nI 0 = (0 : Int32) from rfl] at e1 f1
    refine ⟨y, c, C2, ?_, hm.symm, by rw [f3 146 (by decide) (by decide), wr_c (by decide)]; exact b1, b2, f2, fun a _ _ _ _ h => by rw [f3 a (by omega) (by omega), wr_c (by omega), e3 a (by omega), wr_c (by omega)]⟩
    unfold fX6_findBest
    rw [lt_e, lt_e, h1.1, e1]
    unfold fX6_findBest_B57
    rw [e_clear (by decide), bd_s, b3, f1]
theorem op_order {C D : Mm} (h : Rel C D) (a w : Int32) : Op (fX9_order a w C) (fX10_order a w D) := by
  have hFU := FU_big
  have err : Op (fX9_order_B15 C) (fX10_order_B15 D) := by
    unfold fX9_order_B15 fX10_order_B15
    rw [e_ref1, e_err1]
    exact op_err h (by decide) (by decide)
  unfold fX9_order fX10_order
  rw [e_isWithin, e_in, bd_s, bd_s]
  by_cases hw : wi a 1 20 = true
  · obtain ⟨v, v1, v20, rfl⟩ := wiR (lo := 1) (hi := 20) (by omega) hw (by omega)
    rw [hw, if_pos rfl, if_pos rfl]
    by_cases hb : (-1 : Int32) ≤ w
    · have hn4 := flL_len (Fs (D 1))
      rw [if_pos hb, if_pos hb, lt_e]
      obtain ⟨C1, c1, c2, c3, c4, c5⟩ := c_try h.si v20 h.rs.rv
      obtain ⟨y, c, C2, f1, f2, f3, f4, f5, f6⟩ := c_find v20 c2 c3 c4
      obtain ⟨D1, d1, d2, d3, d4⟩ := m_count h.si (nI v) w 4 FU 0 (wr D 0 15 0) (by omega) (by omega) (wr_c (by decide)) (by rw [wr_s]; rfl)
      obtain ⟨D2, g1, g2, g3, g4, g5⟩ := m_tries h.si v20 hn4 (flL (Fs (D 1))).length DPT [] (wr D1 0 16 (-1)) none (by have : DPT = 8 := rfl; omega) (by rw [List.length_nil]; omega) ⟨fun i hi => by simp at hi, fun i j hi => by simp at hi⟩ (by rw [wr_j (by decide)]; exact d2) (fun j hj => by simp at hj) (by rw [wr_c (by decide), d3 1 (by decide), wr_c (by decide)]; exact EqS.rf _) wr_s
      rw [f2] at g3
      obtain ⟨g31, g32, g33⟩ := g3
      have hrel : Rel C2 D2 := Rel_aftB h (c5.tr f6) g2 (fun a a0 a1 a3 a6 a7 a9 a10 _ => by rw [g5.1 a a0 a1 a3 a6 a7 a9 a10, wr_c a0, d3 a a0, wr_c a0]) (fun j j15 j16 => by rw [g5.2 j j16, wr_j j16, d4 j j15, wr_j j15])
      have e15 : D2 0 15 = nI (flL (Fs (D 1))).length := by rw [g5.2 15 (by decide), wr_j (by decide)]; exact d2
      have hlen : (rowC (Fs (D 1)) (flL (Fs (D 1))).length c).length = (flL (Fs (D 1))).length := by unfold rowC; simp
      rw [show nI 0 = (0 : Int32) from rfl] at d1
      have g1' : fX10_tries DPT 0 (nI v) (wr D1 0 16 (-1)) = some ((), D2) := g1
      rw [c1, bd_s, f1, bd_s, d1]
      unfold fX10_order_B62 fX9_order_B84 fX10_order_B107
      rw [lt_e, g1', bd_s]
      by_cases hm1 : w = -1
      · rw [if_pos hm1, if_pos hm1]
        exact ⟨_, _, _, rfl, by rw [f3, g31], hrel⟩
      · rw [if_neg hm1, if_neg hm1, e15, f5.1, hlen]
        have hw0 : 0 ≤ w.toInt := by
          rw [Int32.le_iff_toInt_le, show (-1 : Int32).toInt = -1 by decide] at hb
          rcases Int.lt_or_le w.toInt 0 with q | q
          · exact absurd (Int32.toInt_inj.mp (show w.toInt = (-1 : Int32).toInt by rw [show (-1 : Int32).toInt = -1 by decide]; omega)) hm1
          · exact q
        have hw31 := Int32.toInt_lt w
        rw [i32_nat hw0]
        have hj31 : w.toInt.toNat < 2 ^ 31 := by omega
        generalize w.toInt.toNat = j at hj31
        by_cases hle : (flL (Fs (D 1))).length ≤ j
        · rw [if_pos (nI_le hle (by omega)), if_pos (nI_le hle (by omega)), e_ref2, e_err2]
          exact op_err hrel (by decide) (by decide)
        · have hcap := cap_all
          rw [if_neg (show ¬ nI (flL (Fs (D 1))).length ≤ nI j from nI_ge (by omega) (by omega)), if_neg (show ¬ nI (flL (Fs (D 1))).length ≤ nI j from nI_ge (by omega) (by omega)), o_rowat (by decide) f5 (by omega) (by omega), bd_s, inb_nI (by omega) (by omega), gd_t, ix_nI (by omega), g33 j (by omega)]
          exact ⟨_, _, _, rfl, rfl, hrel⟩
    · rw [if_neg hb, if_neg hb]; exact err
  · rw [if_neg hw, if_neg hw]; exact err
