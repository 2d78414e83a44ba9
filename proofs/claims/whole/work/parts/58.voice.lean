/-! PURE 29: voices. -/
def VR (C0 D0 : Mm) (l kd m : Nat) (C D : Mm) : Prop := (C 156 2 = nI kd) ∧ (C 156 3 = nI m) ∧ (C 156 4 = nI l) ∧ (D 0 20 = nI l) ∧ (D 1 (12 + 7 * l) = nI kd) ∧ (D 1 (12 + 7 * l + 1) = nI m) ∧ (C 156 1 = D 0 21) ∧ (∃ t, t ≤ 30 ∧ D 0 19 = nI t ∧ C 157 1 = nI t ∧ ∀ j, j < t → C 158 j = D 12 j) ∧ (∀ a, a ≠ 156 → a ≠ 157 → a ≠ 158 → C a = C0 a) ∧ (∀ a, a ≠ 0 → a ≠ 12 → D a = D0 a) ∧ (∀ j, j ≠ 19 → j ≠ 20 → j ≠ 21 → D 0 j = D0 0 j) ∧ (l < 24) ∧ (kd < 7) ∧ (m < 10)
theorem VR.k2 {C0 D0 : Mm} {l kd m : Nat} {C D : Mm} (h : VR C0 D0 l kd m C D) : C 156 2 = nI kd := h.1
theorem VR.k3 {C0 D0 : Mm} {l kd m : Nat} {C D : Mm} (h : VR C0 D0 l kd m C D) : C 156 3 = nI m := h.2.1
theorem VR.k4 {C0 D0 : Mm} {l kd m : Nat} {C D : Mm} (h : VR C0 D0 l kd m C D) : C 156 4 = nI l := h.2.2.1
theorem VR.d20 {C0 D0 : Mm} {l kd m : Nat} {C D : Mm} (h : VR C0 D0 l kd m C D) : D 0 20 = nI l := h.2.2.2.1
theorem VR.s0 {C0 D0 : Mm} {l kd m : Nat} {C D : Mm} (h : VR C0 D0 l kd m C D) : D 1 (12 + 7 * l) = nI kd := h.2.2.2.2.1
theorem VR.s1 {C0 D0 : Mm} {l kd m : Nat} {C D : Mm} (h : VR C0 D0 l kd m C D) : D 1 (12 + 7 * l + 1) = nI m := h.2.2.2.2.2.1
theorem VR.pt {C0 D0 : Mm} {l kd m : Nat} {C D : Mm} (h : VR C0 D0 l kd m C D) : C 156 1 = D 0 21 := h.2.2.2.2.2.2.1
theorem VR.tr {C0 D0 : Mm} {l kd m : Nat} {C D : Mm} (h : VR C0 D0 l kd m C D) : ∃ t, t ≤ 30 ∧ D 0 19 = nI t ∧ C 157 1 = nI t ∧ ∀ j, j < t → C 158 j = D 12 j := h.2.2.2.2.2.2.2.1
theorem VR.fc {C0 D0 : Mm} {l kd m : Nat} {C D : Mm} (h : VR C0 D0 l kd m C D) : ∀ a, a ≠ 156 → a ≠ 157 → a ≠ 158 → C a = C0 a := h.2.2.2.2.2.2.2.2.1
theorem VR.fd {C0 D0 : Mm} {l kd m : Nat} {C D : Mm} (h : VR C0 D0 l kd m C D) : ∀ a, a ≠ 0 → a ≠ 12 → D a = D0 a := h.2.2.2.2.2.2.2.2.2.1
theorem VR.f0 {C0 D0 : Mm} {l kd m : Nat} {C D : Mm} (h : VR C0 D0 l kd m C D) : ∀ j, j ≠ 19 → j ≠ 20 → j ≠ 21 → D 0 j = D0 0 j := h.2.2.2.2.2.2.2.2.2.2.1
theorem VR.hl {C0 D0 : Mm} {l kd m : Nat} {C D : Mm} (h : VR C0 D0 l kd m C D) : l < 24 := h.2.2.2.2.2.2.2.2.2.2.2.1
theorem VR.hk {C0 D0 : Mm} {l kd m : Nat} {C D : Mm} (h : VR C0 D0 l kd m C D) : kd < 7 := h.2.2.2.2.2.2.2.2.2.2.2.2.1
theorem VR.hm {C0 D0 : Mm} {l kd m : Nat} {C D : Mm} (h : VR C0 D0 l kd m C D) : m < 10 := h.2.2.2.2.2.2.2.2.2.2.2.2.2
theorem VR.tr1 {C0 D0 : Mm} {l kd m : Nat} {C D : Mm} (h : VR C0 D0 l kd m C D) (b : Int32) : ∃ x C' D', fX5_add 157 b C = some (x, C') ∧ fX10_begins b D = some ((), D') ∧ VR C0 D0 l kd m C' D' := by
  obtain ⟨t, t30, t1, t2, t3⟩ := h.tr
  have hc : isC layC 157 5 = true := by decide
  have hcap : aN layC (157 + 1) = 30 := by decide
  unfold fX10_begins fX10_begins_B29
  rw [t1]
  by_cases ht : t = 30
  · rw [e_addF hc t2 (by omega), if_pos (show (30 : Int32) ≤ nI t from nI_le (a := 30) (by omega) (by omega))]
    exact ⟨_, _, _, rfl, rfl, h⟩
  · rw [e_add hc t2 (by omega), if_neg (show ¬ (30 : Int32) ≤ nI t from nI_ge (b := 30) (by omega) (by omega)), inb_nI (by omega) (by omega), gd_t, ix_nI (by omega), lt_e, lt_e, wr_c (show (0 : Nat) ≠ 12 by decide), t1, nI_1]
    refine ⟨_, _, _, rfl, rfl, ⟨?_, ?_, ?_, ?_, ?_, ?_, ?_, ⟨t + 1, by omega, wr_s, wr_s, fun j hj => ?_⟩, fun a a1 a2 a3 => ?_, fun a a1 a2 => ?_, fun j j1 j2 j3 => ?_, h.hl, h.hk, h.hm⟩⟩
    · rw [wr_c (by decide), wr_c (by decide)]; exact h.k2
    · rw [wr_c (by decide), wr_c (by decide)]; exact h.k3
    · rw [wr_c (by decide), wr_c (by decide)]; exact h.k4
    · rw [wr_j (by decide), wr_c (by decide)]; exact h.d20
    · rw [wr_c (by decide), wr_c (by decide)]; exact h.s0
    · rw [wr_c (by decide), wr_c (by decide)]; exact h.s1
    · rw [wr_c (by decide), wr_c (by decide), wr_j (by decide), wr_c (by decide)]; exact h.pt
    · rw [wr_c (by decide), show (158 : Nat) = 157 + 1 from rfl, wr_at, wr_c (by decide), wr_at]
      by_cases e : j = t
      · rw [if_pos ⟨rfl, e⟩, if_pos ⟨rfl, e⟩]
      · rw [if_neg (fun q => e q.2), if_neg (fun q => e q.2)]; exact t3 j (by omega)
    · rw [wr_c (by omega), wr_c (by omega)]; exact h.fc a a1 a2 a3
    · rw [wr_c a1, wr_c a2]; exact h.fd a a1 a2
    · rw [wr_j j1, wr_c (by decide)]; exact h.f0 j j1 j2 j3
theorem sb {z1 : Int32 → Int32 → Int32 → Int32 → Mm → Option (Int32 × Mm)} {z2 : Int32 → Int32 → Int32 → Mm → Option (Int32 × Mm)} {k v x a4 b : Int32} {C C1 : Mm} {tr : Bool} (hb : fX8_bodyFrom k v C = some (b, C)) (hnz : ¬ b = 0) (hdp : a4 < 40) (hadd : fX5_add 157 b C = some (tr, C1)) (hr : inb (hd (b / 10 - 1) 0 6) 7 = true) : fX8_speak_b z1 z2 k v x a4 C = (if b = 10 then (some (x + (C1 156 4), C1)) else if b = 11 then (bd (z1 (C1 156 2) 0 x (a4 + 1) C1) fun r M => some (r * 2, M)) else if b = 12 then (bd (z1 (C1 156 2) 1 x (a4 + 1) C1) fun r M => some (r - (M 156 3), M)) else if b = 13 then (bd (fX8_part x C1) fun r M => some (r, M)) else if b = 20 then (bd (z1 (tabA (ix (hd (b / 10 - 1) 0 6))) 0 x (a4 + 1) C1) fun r M => some (r - 6, M)) else if b = 21 then (bd (z2 (tabA (ix (hd (b / 10 - 1) 0 6))) x (a4 + 1) C1) fun r M => some (r, M)) else if b = 30 then (bd (z1 (tabA (ix (hd (b / 10 - 1) 0 6))) 1 x (a4 + 1) C1) fun r M => some (0 - r, M)) else if b = 40 then (bd (z1 (tabA (ix (hd (b / 10 - 1) 0 6))) 0 x (a4 + 1) C1) fun r M => some (r * 3, M)) else if b = 41 then (bd (z1 (tabA (ix (hd (b / 10 - 1) 0 6))) 2 x (a4 + 1) C1) fun r M => some (r ^^^ (M 156 4), M)) else if b = 50 then (bd (z1 (tabA (ix (hd (b / 10 - 1) 0 6))) 1 (x + 1) (a4 + 1) C1) fun r M => some (r, M)) else if b = 60 then (bd (z1 (tabA (ix (hd (b / 10 - 1) 0 6))) 2 (x / 2) (a4 + 1) C1) fun r M => some (r, M)) else if b = 70 then (some (2, C1)) else bd (z1 (tabA (ix (hd (b / 10 - 1) 0 6))) 1 x (a4 + 1) C1) fun r M => some (r + (M 156 3), M)) := by
  unfold fX8_speak_b
  rw [hb, bd_s, if_neg hnz, if_pos hdp, hadd, bd_s, e_hold, bd_s, hr]
  rfl
/-- the body of voice v that kind k has: its own or the nearest above -/
def bdy (k v : Nat) : Int32 := if tabB (4 * k + v) = 0 then (if tabB (4 * ix (tabA k) + v) = 0 then tabB (4 * ix (tabA (ix (tabA k))) + v) else tabB (4 * ix (tabA k) + v)) else tabB (4 * k + v)
theorem e_body (k v : Nat) (hk : k < 7) (hv : v < 4) (M : Mm) : fX8_bodyFrom (nI k) (nI v) M = some (bdy k v, M) := by
  rcases (show k = 0 ∨ k = 1 ∨ k = 2 ∨ k = 3 ∨ k = 4 ∨ k = 5 ∨ k = 6 by omega) with rfl | rfl | rfl | rfl | rfl | rfl | rfl <;> rcases (show v = 0 ∨ v = 1 ∨ v = 2 ∨ v = 3 by omega) with rfl | rfl | rfl | rfl <;> rfl
def Two (C0 D0 : Mm) (l kd m : Nat) (x y : Option (Int32 × Mm)) : Prop := ∃ r C' D', x = some (r, C') ∧ y = some (r, D') ∧ VR C0 D0 l kd m C' D'
theorem bd_id (x : Option (Int32 × Mm)) : (bd x fun r M => some (r, M)) = x := by
  cases x with
  | none => rfl
  | some p => rfl
theorem sp_same {d k k' v : Nat} (hk : k < 7) (hk' : k' < 7) (hv : v < 4) (e : bdy k v = bdy k' v) (x a4 : Int32) (C : Mm) : (grX8_speak (d + 1)).1 (nI k) (nI v) x a4 C = (grX8_speak (d + 1)).1 (nI k') (nI v) x a4 C := by
  show fX8_speak_b _ _ _ _ _ _ _ = fX8_speak_b _ _ _ _ _ _ _
  unfold fX8_speak_b
  rw [e_body k v hk hv, e_body k' v hk' hv, e]
theorem gs1 (d : Nat) (k v x a4 : Int32) (C : Mm) : (grX8_speak (d + 1)).1 k v x a4 C = fX8_speak_b (grX8_speak d).1 (grX8_speak d).2 k v x a4 C := rfl
theorem two_f {C0 D0 : Mm} {l kd m : Nat} {x y : Option (Int32 × Mm)} (h : Two C0 D0 l kd m x y) (f g : Int32 → Mm → Int32) (hfg : ∀ r C D, VR C0 D0 l kd m C D → f r C = g r D) : Two C0 D0 l kd m (bd x fun r M => some (f r M, M)) (bd y fun r M => some (g r M, M)) := by
  obtain ⟨r, C', D', e1, e2, e3⟩ := h
  rw [e1, e2, bd_s, bd_s]
  exact ⟨_, _, _, rfl, by rw [hfg r C' D' e3], e3⟩
theorem dp_lt {dp : Nat} (h : dp < 40) : nI dp < (40 : Int32) := nI_lt (b := 40) h (by omega)
theorem v0 {C0 D0 : Mm} {l kd m : Nat} {k : Nat} (hk : k < 7) (x : Int32) (d e dp : Nat) (hdp : dp + 3 < 40) {C D : Mm} (h : VR C0 D0 l kd m C D) : Two C0 D0 l kd m ((grX8_speak (d + 3)).1 (nI k) (nI 0) x (nI dp) C) (grX10_meltsBy (e + 3) (nI k) x D) := by
  have b0 : ∀ (d e dp : Nat) (C D : Mm), dp < 40 → VR C0 D0 l kd m C D → Two C0 D0 l kd m ((grX8_speak (d + 1)).1 (nI 0) (nI 0) x (nI dp) C) (grX10_meltsBy (e + 1) (nI 0) x D) := fun d e dp C D hd h => by
    obtain ⟨tr, C1, D1, e1, e2, e3⟩ := h.tr1 10
    refine ⟨x + nI l, C1, D1, ?_, ?_, e3⟩
    · refine (gs1 d _ _ _ _ _).trans ?_
      rw [sb (b := 10) (e_body 0 0 (by omega) (by omega) C) (by decide) (dp_lt hd) e1 (by decide), if_pos rfl, e3.k4]
    · show (bd (fX10_begins 10 D) fun _ M => some (x + M 0 20, M)) = _
      rw [e2, bd_s, e3.d20]
  have b1 : ∀ (d e dp : Nat) (C D : Mm), dp + 1 < 40 → VR C0 D0 l kd m C D → Two C0 D0 l kd m ((grX8_speak (d + 2)).1 (nI 1) (nI 0) x (nI dp) C) (grX10_meltsBy (e + 2) (nI 1) x D) := fun d e dp C D hd h => by
    obtain ⟨tr, C1, D1, e1, e2, e3⟩ := h.tr1 20
    have q1 : (grX8_speak (d + 2)).1 (nI 1) (nI 0) x (nI dp) C = bd ((grX8_speak (d + 1)).1 (nI 0) (nI 0) x (nI (dp + 1)) C1) fun r M => some (r - 6, M) := by
      refine (gs1 (d + 1) _ _ _ _ _).trans ?_
      rw [sb (b := 20) (e_body 1 0 (by omega) (by omega) C) (by decide) (dp_lt (by omega)) e1 (by decide), nI_1]; rfl
    have q2 : grX10_meltsBy (e + 2) (nI 1) x D = bd (grX10_meltsBy (e + 1) (nI 0) x D1) fun r M => some (r - 6, M) := by
      show (bd (fX10_begins 20 D) fun _ M4 => _) = _
      rw [e2, bd_s]; rfl
    rw [q1, q2]
    exact two_f (b0 d e (dp + 1) C1 D1 (by omega) e3) _ _ (fun _ _ _ _ => rfl)
  rcases (show k = 0 ∨ k = 1 ∨ k = 2 ∨ k = 3 ∨ k = 4 ∨ k = 5 ∨ k = 6 by omega) with rfl | rfl | rfl | rfl | rfl | rfl | rfl
  · exact b0 (d + 2) (e + 2) dp C D (by omega) h
  · exact b1 (d + 1) (e + 1) dp C D (by omega) h
  · rw [sp_same (d := d + 2) (k := 2) (k' := 0) (by omega) (by omega) (by omega) (by decide)]
    rw [show grX10_meltsBy (e + 3) (nI 2) x D = grX10_meltsBy (e + 2) (nI 0) x D from bd_id _]
    exact b0 (d + 2) (e + 1) dp C D (by omega) h
  · obtain ⟨tr, C1, D1, e1, e2, e3⟩ := h.tr1 40
    have q1 : (grX8_speak (d + 3)).1 (nI 3) (nI 0) x (nI dp) C = bd ((grX8_speak (d + 2)).1 (nI 1) (nI 0) x (nI (dp + 1)) C1) fun r M => some (r * 3, M) := by
      refine (gs1 (d + 2) _ _ _ _ _).trans ?_
      rw [sb (b := 40) (e_body 3 0 (by omega) (by omega) C) (by decide) (dp_lt (by omega)) e1 (by decide), nI_1]; rfl
    have q2 : grX10_meltsBy (e + 3) (nI 3) x D = bd (grX10_meltsBy (e + 2) (nI 1) x D1) fun r M => some (r * 3, M) := by
      show (bd (fX10_begins 40 D) fun _ M4 => _) = _
      rw [e2, bd_s]; rfl
    rw [q1, q2]
    exact two_f (b1 d e (dp + 1) C1 D1 (by omega) e3) _ _ (fun _ _ _ _ => rfl)
  · rw [sp_same (d := d + 2) (k := 4) (k' := 0) (by omega) (by omega) (by omega) (by decide)]
    rw [show grX10_meltsBy (e + 3) (nI 4) x D = grX10_meltsBy (e + 2) (nI 2) x D from bd_id _, show grX10_meltsBy (e + 2) (nI 2) x D = grX10_meltsBy (e + 1) (nI 0) x D from bd_id _]
    exact b0 (d + 2) e dp C D (by omega) h
  · rw [sp_same (d := d + 2) (k := 5) (k' := 0) (by omega) (by omega) (by omega) (by decide)]
    rw [show grX10_meltsBy (e + 3) (nI 5) x D = grX10_meltsBy (e + 2) (nI 0) x D from bd_id _]
    exact b0 (d + 2) (e + 1) dp C D (by omega) h
  · obtain ⟨tr, C1, D1, e1, e2, e3⟩ := h.tr1 70
    refine ⟨2, C1, D1, ?_, ?_, e3⟩
    · refine (gs1 (d + 2) _ _ _ _ _).trans ?_
      rw [sb (b := 70) (e_body 6 0 (by omega) (by omega) C) (by decide) (dp_lt (by omega)) e1 (by decide)]; rfl
    · show (bd (fX10_begins 70 D) fun _ M => some (2, M)) = _
      rw [e2, bd_s]
