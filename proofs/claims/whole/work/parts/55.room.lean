/-! PURE 26: room, needs, judge. -/
def u4 (r : Nat) (g : Nat → Int32) : Nat → Int32 := upd g 4 (nI r)
theorem LG_u4 {g : Nat → Int32} {r : Nat} (hg : LG g) (hr : r < 4) : LG (u4 r g) := by
  obtain ⟨h0, h1, h3, h4, h6⟩ := hg
  exact ⟨h0, h1, h3, ⟨r, hr, rfl⟩, h6⟩
theorem u4_cg {g g2 : Nat → Int32} {r : Nat} (h : ∀ f, f < 7 → g f = g2 f) : ∀ f, f < 7 → u4 r g f = u4 r g2 f := fun f hf => by
  unfold u4 upd
  by_cases e : f = 4
  · rw [if_pos e, if_pos e]
  · rw [if_neg e, if_neg e]; exact h f hf
theorem c_bring_loop {s : Sx} {n r : Nat} (hr : r < 4) {sh : Int32} : ∀ (m f j : Nat) (C : Mm) (gs : Nat → Nat → Int32), m < f → j + m = n → AC C s n gs sh → ∃ C', fX0_bringTo_L2 (nI r) f (nI j) C = some ((), C') ∧ AC C' s n (fun t => if j ≤ t then u4 r (gs t) else gs t) sh ∧ ScA C C' := by
  intro m
  induction m with
  | zero =>
    intro f j C gs h1 hj h
    obtain ⟨g, rfl⟩ : ∃ g, f = g + 1 := ⟨f - 1, by omega⟩
    have h8 := h.2.2.1
    unfold fX0_bringTo_L2 fX0_bringTo_L2b fX0_bringTo_B26
    rw [h.2.1, if_pos (nI_le (by omega) (by omega))]
    exact ⟨_, rfl, h.cg (fun t ht2 f hf => by rw [if_neg (by omega)]), ScA.rf C⟩
  | succ m ih =>
    intro f j C gs h1 hj h
    obtain ⟨g, rfl⟩ : ∃ g, f = g + 1 := ⟨f - 1, by omega⟩
    have h8 := h.2.2.1
    obtain ⟨b1, b2, b3, b4, b5⟩ := id h
    have hst : AC (wr C (138 + 1 * j) 4 (nI r)) s n (fun t => if t = j then u4 r (gs t) else gs t) sh := by
      refine ⟨b1.sa (ScA_wr (by omega) (by omega)), by rw [wr_c (by omega)]; exact b2, b3, by rw [wr_c (by omega)]; exact b4, fun t ht2 => ?_⟩
      by_cases e : t = j
      · subst e
        dsimp only
        rw [if_pos rfl]
        refine ⟨LG_u4 (b5 t ht2).1 hr, fun f hf => ?_⟩
        unfold u4 upd
        by_cases f4 : f = 4
        · subst f4; rw [wr_s, if_pos rfl]
        · rw [wr_j f4, if_neg f4]; exact (b5 t ht2).2 f hf
      · dsimp only
        rw [if_neg e]
        exact ⟨(b5 t ht2).1, fun f hf => by rw [wr_c (by omega)]; exact (b5 t ht2).2 f hf⟩
    unfold fX0_bringTo_L2 fX0_bringTo_L2b
    rw [h.2.1, if_neg (nI_ge (by omega) (by omega)), inb_nI (by omega) (by omega), gd_t, ix_nI (by omega), c_ahl j (by omega), gd_t, lt_e, show nI j + 1 = nI (j + 1) from nI_1 j]
    obtain ⟨C', s1, s2, s3⟩ := ih g (j + 1) _ _ (by omega) (by omega) hst
    refine ⟨C', s1, s2.cg (fun t ht2 f hf => ?_), (ScA_wr (by omega) (by omega)).tr s3⟩
    by_cases q : j ≤ t
    · by_cases q2 : t = j
      · rw [if_pos q, if_neg (by omega), if_pos q2]
      · rw [if_pos q, if_pos (by omega), if_neg q2]
    · rw [if_neg q, if_neg (by omega), if_neg (by omega)]
theorem c_bring {s : Sx} {n r : Nat} (hr : r < 4) {gs : Nat → Nat → Int32} {sh : Int32} {C : Mm} (h : AC C s n gs sh) : ∃ C', fX0_bringTo (nI r) C = some ((), C') ∧ AC C' s n (fun t => u4 r (gs t)) sh ∧ ScA C C' := by
  have hFU := FU_big
  have h8 := h.2.2.1
  obtain ⟨C', e1, e2, e3⟩ := c_bring_loop hr n FU 0 C gs (by omega) (by omega) h
  exact ⟨C', e1, e2.cg (fun t _ f _ => by rw [if_pos (Nat.zero_le t)]), e3⟩
/-- one field of one letter is laid anew -/
theorem MS_lay {s0 : Sx} {D : Mm} {G : Nat → Nat → Int32} {H : Nat → Int32} (h : MS s0 (D 1) G H) {l f : Nat} {v : Int32} (hl : l < nL s0) (hf : f = 3 ∨ f = 4 ∨ f = 6) (hok : LOK (upd (D 1) (12 + 7 * l + f) v) l) : MS s0 (wr D 1 (12 + 7 * l + f) v 1) (fun k => if k = l then upd (G k) f v else G k) H := by
  have hL := h.1.l24
  have enl := h.nl
  have hE : ∀ i, i ≠ 12 + 7 * l + f → wr D 1 (12 + 7 * l + f) v 1 i = D 1 i := fun i hi => by rw [wr_at, if_neg (by omega)]
  refine ⟨SI_soft h.1 (fun q hq hn => hE q (fun e => hn (by unfold softI; omega))) ⟨by rw [hE 2 (by omega)]; exact h.1.2.1.1, by rw [hE 3 (by omega)]; exact h.1.2.1.2.1, fun r hr => by rw [hE _ (by omega)]; exact h.1.2.1.2.2 r hr⟩ (fun k hk => ?_), fun i hi hx => ?_, fun k g hk hg => ?_, fun q hq => ?_, fun k hk => ?_⟩
  · by_cases e : k = l
    · subst e; rw [wr_k]; exact hok
    · exact LOK_congr (fun g hg => (hE _ (by omega)).symm) (h.1.2.2.1 k hk)
  · rw [hE i (fun e => hx (by unfold msx; omega))]; exact h.2.1 i hi hx
  · dsimp only
    by_cases e : k = l
    · subst e
      rw [if_pos rfl]; unfold upd
      by_cases e2 : g = f
      · subst e2; rw [wr_s, if_pos rfl]
      · rw [if_neg e2, hE _ (by omega)]; exact h.2.2.1 k g hk hg
    · rw [if_neg e, hE _ (by omega)]; exact h.2.2.1 k g hk hg
  · rw [hE _ (by omega)]; exact h.2.2.2.1 q hq
  · dsimp only
    by_cases e : k = l
    · rw [if_pos e, upd_n (by omega)]; exact h.2.2.2.2 k hk
    · rw [if_neg e]; exact h.2.2.2.2 k hk
theorem m_lay_loop {s0 : Sx} (h0 : SI s0) {p r : Nat} (hp : p < 4) (hr : r < 4) (v : Int32) {H : Nat → Int32} : ∀ (m f j : Nat) (D : Mm) (G : Nat → Nat → Int32), m < f → j + m = nP s0 p → MS s0 (D 1) G H → ∃ D' G', fX10_runIn_L14 (nI p) (nI r) v f (nI j) D = fX10_runIn_B46 (nI p) v D' ∧ MS s0 (D' 1) G' H ∧ (∀ t, j ≤ t → t < nP s0 p → ∀ f, f < 7 → G' (pl s0 p t) f = u4 r (G (pl s0 p t)) f) ∧ (∀ t, t < j → ∀ f, f < 7 → G' (pl s0 p t) f = G (pl s0 p t) f) ∧ ∀ a, a ≠ 1 → D' a = D a := by
  have h8 := (h0.pag hp).2.1
  have hL := h0.l24
  intro m
  induction m with
  | zero =>
    intro f j D G h1 hj h
    obtain ⟨g, rfl⟩ : ∃ g, f = g + 1 := ⟨f - 1, by omega⟩
    unfold fX10_runIn_L14 fX10_runIn_L14b
    rw [e_of0 hp, bd_s, (h.1.pag hp).1, h.np hp, if_pos (nI_le (by omega) (by omega))]
    exact ⟨D, G, rfl, h, fun t t1 t2 => by omega, fun _ _ _ _ => rfl, fun _ _ => rfl⟩
  | succ m ih =>
    intro f j D G h1 hj h
    obtain ⟨g, rfl⟩ : ∃ g, f = g + 1 := ⟨f - 1, by omega⟩
    obtain ⟨b1, b2, b3, b4⟩ := h0.plx hp (j := j) (by omega)
    have hl : pl s0 p j < nL (D 1) := by rw [h.nl]; exact b1
    have hinj : ∀ t, t < nP s0 p → pl s0 p t = pl s0 p j → t = j := fun t ht e => by
      obtain ⟨c1, c2, c3, c4⟩ := h0.plx hp ht
      exact (h0.pag hp).2.2.2 t j ht (by omega) (by rw [c2, b2, e])
    have hms := MS_lay h (f := 4) (v := nI r) b1 (by omega) (LOK_room (h.1.2.2.1 _ hl) hr)
    unfold fX10_runIn_L14 fX10_runIn_L14b
    rw [e_of0 hp, bd_s, (h.1.pag hp).1, h.np hp, if_neg (nI_ge (by omega) (by omega)), e_ofR hp b4, bd_s, h.pr hp b4, b2, e_lays4 (by omega), bd_s, show nI j + 1 = nI (j + 1) from nI_1 j]
    obtain ⟨D', G', s1, s2, s3, s4, s5⟩ := ih g (j + 1) _ _ (by omega) (by omega) hms
    refine ⟨D', G', s1, s2, fun t t1 t2 f hf => ?_, fun t ht f hf => ?_, fun a ha => by rw [s5 a ha, wr_c ha]⟩
    · by_cases e : t = j
      · subst e
        rw [s4 t (by omega) f hf, if_pos rfl]; rfl
      · rw [s3 t (by omega) t2 f hf, if_neg (fun x => e (hinj t t2 x))]
    · rw [s4 t (by omega) f hf, if_neg (fun x => by have := hinj t (by omega) x; omega)]
def rr (s : Sx) (p v r : Nat) : Nat := rnF s (nP s p) v (fun t => u4 r (gS s (pl s p t))) (s (181 + 10 * p))
theorem rr_le {s : Sx} {p v r : Nat} : rr s p v r ≤ v := rnF_le v _ _
theorem m_runIn {s0 : Sx} (h0 : SI s0) {p r v : Nat} (hp : p < 4) (hr : r < 4) (hv : v ≤ 99) {D : Mm} (he : EqS (D 1) s0) : ∃ D', fX10_runIn (nI p) (nI r) (nI v) D = some (nI (rr s0 p v r), D') ∧ EqS (D' 1) s0 ∧ ∀ a, a ≠ 1 → a ≠ 3 → a ≠ 6 → a ≠ 7 → a ≠ 11 → D' a = D a := by
  have hFU := FU_big
  have h8 := (h0.pag hp).2.1
  obtain ⟨D1, e1, e2, e3⟩ := e_cy_1_11 D
  obtain ⟨D2, G', s1, s2, s3, s4, s5⟩ := m_lay_loop h0 hp hr (nI v) (nP s0 p) FU 0 D1 _ (by omega) (by omega) (by rw [e3 1 (by decide)]; exact MS.eq h0 he.sy)
  obtain ⟨D3, t1, t2, t3⟩ := m_runOf h0 hp (v := v) (by omega) s2
  obtain ⟨D4, u1, u2, u3⟩ := e_cy_11_1 D3
  rw [show nI 0 = (0 : Int32) from rfl] at s1
  unfold fX10_runIn
  rw [e1, bd_s, s1]
  unfold fX10_runIn_B46
  rw [t1, bd_s, u1, bd_s]
  refine ⟨D4, ?_, ?_, fun a a1 a3 a6 a7 a11 => by rw [u3 a a1, t3 a a1 a3 a6 a7, s5 a a1, e3 a a11]⟩
  · unfold rr
    rw [rnF_cg v (fun t => G' (pl s0 p t)) (fun t => u4 r (gS s0 (pl s0 p t))) _ (fun t ht f hf => s3 t (by omega) ht f hf)]
  · rw [t3 11 (by decide) (by decide) (by decide) (by decide), s5 11 (by decide)] at u2
    exact (u2.tr e2).tr he
theorem c_room1 {s : Sx} (hs : SI s) {p r v : Nat} (hp : p < 4) (hr : r < 4) (hv : v ≤ 99) {C : Mm} (hc : RV C s) : ∃ C1 C2 C3, fX0_startPage (nI p) C = some ((), C1) ∧ fX0_bringTo (nI r) C1 = some ((), C2) ∧ fX0_clearInARun (nI v) C2 = some (nI (rr s p v r), C3) ∧ ScA C C3 := by
  obtain ⟨C1, e1, e2, e3⟩ := c_startp hs hp hc
  obtain ⟨C2, f1, f2, f3⟩ := c_bring hr e2
  obtain ⟨C3, g1, g2⟩ := c_run hs.tx (v := v) (by omega) f2
  exact ⟨C1, C2, C3, e1, f1, g1, (e3.tr f3).tr g2⟩
theorem room_loop {s0 : Sx} (h0 : SI s0) {p v : Nat} (hp : p < 4) (hv : v ≤ 99) : ∀ (m f1 f2 j b : Nat) (C D : Mm), m < f1 → m < f2 → j + m = 4 → b < 4 → RV C s0 → EqS (D 1) s0 → ∃ r C' D', fX9_room_L32 (nI p) (nI v) f1 (nI j) (nI (rr s0 p v b)) (nI b) C = some (r, C') ∧ fX10_room_L25 (nI p) (nI v) f2 (nI j) (nI b) D = some (r, D') ∧ ScA C C' ∧ EqS (D' 1) s0 ∧ ∀ a, a ≠ 1 → a ≠ 3 → a ≠ 6 → a ≠ 7 → a ≠ 11 → D' a = D a := by
  intro m
  induction m with
  | zero =>
    intro f1 f2 j b C D h1 h2 hj hb hc hd
    obtain ⟨g1, rfl⟩ : ∃ g, f1 = g + 1 := ⟨f1 - 1, by omega⟩
    obtain ⟨g2, rfl⟩ : ∃ g, f2 = g + 1 := ⟨f2 - 1, by omega⟩
    unfold fX9_room_L32 fX10_room_L25 fX9_room_L32b fX10_room_L25b fX9_room_B85 fX10_room_B62
    rw [if_pos (show (4 : Int32) ≤ nI j from nI_le (a := 4) (by omega) (by omega)), if_pos (show (4 : Int32) ≤ nI j from nI_le (a := 4) (by omega) (by omega))]
    exact ⟨_, _, _, rfl, rfl, ScA.rf C, hd, fun _ _ _ _ _ _ => rfl⟩
  | succ m ih =>
    intro f1 f2 j b C D h1 h2 hj hb hc hd
    obtain ⟨g1, rfl⟩ : ∃ g, f1 = g + 1 := ⟨f1 - 1, by omega⟩
    obtain ⟨g2, rfl⟩ : ∃ g, f2 = g + 1 := ⟨f2 - 1, by omega⟩
    obtain ⟨C1, C2, C3, e1, e2, e3, e4⟩ := c_room1 h0 hp (r := j) (v := v) (by omega) hv hc
    obtain ⟨D1, k1, k2, k3⟩ := m_runIn h0 hp (r := j) (v := v) (by omega) hv hd
    obtain ⟨D2, l1, l2, l3⟩ := m_runIn h0 hp (r := b) (v := v) hb hv k2
    have q1 := rr_le (s := s0) (p := p) (v := v) (r := j)
    have q2 := rr_le (s := s0) (p := p) (v := v) (r := b)
    unfold fX9_room_L32 fX10_room_L25 fX9_room_L32b fX10_room_L25b fX9_room_B79 fX10_room_B55
    rw [if_neg (show ¬ (4 : Int32) ≤ nI j from nI_ge (b := 4) (by omega) (by omega)), if_neg (show ¬ (4 : Int32) ≤ nI j from nI_ge (b := 4) (by omega) (by omega)), e1, bd_s, e2, bd_s, e3, bd_s, k1, bd_s, l1, bd_s, show nI j + 1 = nI (j + 1) from nI_1 j]
    have fr : ∀ a, a ≠ 1 → a ≠ 3 → a ≠ 6 → a ≠ 7 → a ≠ 11 → D2 a = D a := fun a a1 a3 a6 a7 a11 => by rw [l3 a a1 a3 a6 a7 a11, k3 a a1 a3 a6 a7 a11]
    by_cases hle : rr s0 p v j ≤ rr s0 p v b
    · rw [if_pos (nI_le hle (by omega)), if_pos (nI_le hle (by omega))]
      obtain ⟨r, C', D', s1, s2, s3, s4, s5⟩ := ih g1 g2 (j + 1) b C3 D2 (by omega) (by omega) (by omega) hb (hc.sa h0 e4) l2
      exact ⟨r, C', D', s1, s2, e4.tr s3, s4, fun a a1 a3 a6 a7 a11 => by rw [s5 a a1 a3 a6 a7 a11, fr a a1 a3 a6 a7 a11]⟩
    · rw [if_neg (nI_ge (by omega) (by omega)), if_neg (nI_ge (by omega) (by omega))]
      obtain ⟨r, C', D', s1, s2, s3, s4, s5⟩ := ih g1 g2 (j + 1) j C3 D2 (by omega) (by omega) (by omega) (by omega) (hc.sa h0 e4) l2
      exact ⟨r, C', D', s1, s2, e4.tr s3, s4, fun a a1 a3 a6 a7 a11 => by rw [s5 a a1 a3 a6 a7 a11, fr a a1 a3 a6 a7 a11]⟩
theorem op_room {C D : Mm} (h : Rel C D) (a b : Int32) : Op (fX9_room a b C) (fX10_room a b D) := by
  have hFU := FU_big
  have err : Op (fX9_room_B17 C) (fX10_room_B14 D) := by
    unfold fX9_room_B17 fX10_room_B14
    rw [e_ref1, e_err1]
    exact op_err h (by decide) (by decide)
  unfold fX9_room fX10_room
  rw [e_isPageC, e_isPage, bd_s, bd_s]
  by_cases hw : wi a 0 3 = true
  · obtain ⟨p, hp, rfl⟩ := wi3 hw
    rw [hw, if_pos rfl, if_pos rfl, e_isWithin, e_isAhead, bd_s, bd_s]
    by_cases hk : wi b 0 99 = true
    · obtain ⟨v, hv, rfl⟩ := wi_in (n := 99) (by omega) hk
      rw [hk, if_pos rfl, if_pos rfl]
      obtain ⟨g, hg⟩ : ∃ g, FU = g + 1 := ⟨FU - 1, by omega⟩
      obtain ⟨C1, C2, C3, e1, e2, e3, e4⟩ := c_room1 h.si hp (r := 0) (v := v) (by omega) hv h.rs.rv
      have hq := rr_le (s := D 1) (p := p) (v := v) (r := 0)
      obtain ⟨r, C', D', s1, s2, s3, s4, s5⟩ := room_loop h.si hp hv 3 g FU 1 0 C3 D (by omega) (by omega) (by omega) (by omega) (h.rs.rv.sa h.si e4) (EqS.rf _)
      have hfirst : fX9_room_L32 (nI p) (nI v) FU 0 (-1) 0 C = fX9_room_L32 (nI p) (nI v) g 1 (nI (rr (D 1) p v 0)) 0 C3 := by
        rw [hg]
        show fX9_room_L32b (nI p) (nI v) (fX9_room_L32 (nI p) (nI v) g) 0 (-1) 0 C = _
        unfold fX9_room_L32b fX9_room_B79
        rw [if_neg (show ¬ (4 : Int32) ≤ 0 by decide), e1, bd_s, show fX0_bringTo 0 C1 = some ((), C2) from e2, bd_s, e3, bd_s, if_neg (show ¬ nI (rr (D 1) p v 0) ≤ -1 from fun q => by
          have := nI_pos' (n := rr (D 1) p v 0) (by omega)
          rw [Int32.le_iff_toInt_le] at q this
          rw [show (-1 : Int32).toInt = -1 by decide] at q
          rw [show (0 : Int32).toInt = 0 by decide] at this
          omega)]
        rfl
      rw [hfirst]
      have s1' : fX9_room_L32 (nI p) (nI v) g 1 (nI (rr (D 1) p v 0)) 0 C3 = some (r, C') := s1
      have s2' : fX10_room_L25 (nI p) (nI v) FU 1 0 D = some (r, D') := s2
      rw [s1', s2']
      exact ⟨_, _, _, rfl, rfl, Rel_aft h (e4.tr s3) s4 (fun a _ a1 a3 a6 a7 _ _ a11 => s5 a a1 a3 a6 a7 a11) (fun j _ _ => by rw [s5 0 (by decide) (by decide) (by decide) (by decide) (by decide)])⟩
    · rw [if_neg hk, if_neg hk]; exact err
  · rw [if_neg hw, if_neg hw]; exact err
