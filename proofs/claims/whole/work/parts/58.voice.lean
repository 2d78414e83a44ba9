/-! PURE 29: voices. -/
def VR (C0 D0 : Mm) (l kd m : Nat) (C D : Mm) : Prop := (C 156 2 = nI kd) ∧ (C 156 3 = nI m) ∧ (C 156 4 = nI l) ∧ (D 0 20 = nI l) ∧ (D 1 (12 + 7 * l) = nI kd) ∧ (D 1 (12 + 7 * l + 1) = nI m) ∧ (C 156 1 = D 0 21) ∧ (∃ t, t ≤ 30 ∧ D 0 19 = nI t ∧ C 157 1 = nI t ∧ ∀ j, j < t → C 158 j = D 12 j) ∧ (∀ a, a ≠ 156 → a ≠ 157 → a ≠ 158 → C a = C0 a) ∧ (∀ a, a ≠ 0 → a ≠ 12 → D a = D0 a) ∧ (∀ j, j ≠ 19 → j ≠ 20 → j ≠ 21 → D 0 j = D0 0 j) ∧ (l < 24) ∧ (kd < 7) ∧ (m < 10)
theorem VR.k2 {C0 D0 : Mm} {l kd m : Nat} {C D : Mm} (h : VR C0 D0 l kd m C D) : C 156 2 = nI kd := h.1
theorem VR.k3 {C0 D0 : Mm} {l kd m : Nat} {C D : Mm} (h : VR C0 D0 l kd m C D) : C 156 3 = nI m := h.2.1
theorem VR.k4 {C0 D0 : Mm} {l kd m : Nat} {C D : Mm} (h : VR C0 D0 l kd m C D) : C 156 4 = nI l := h.2.2.1
theorem VR.d20 {C0 D0 : Mm} {l kd m : Nat} {C D : Mm} (h : VR C0 D0 l kd m C D) : D 0 20 = nI l := h.2.2.2.1
theorem VR.s0 {C0 D0 : Mm} {l kd m : Nat} {C D : Mm} (h : VR C0 D0 l kd m C D) : D 1 (12 + 7 * l) = nI kd := h.2.2.2.2.1
theorem VR.s1 {C0 D0 : Mm} {l kd m : Nat} {C D : Mm} (h : VR C0 D0 l kd m C D) : D 1 (12 + 7 * l + 1) = nI m := h.2.2.2.2.2.1
theorem VR.pt {C0 D0 : Mm} {l kd m : Nat} {C D : Mm} (h : VR C0 D0 l kd m C D) : C 156 1 = D 0 21 := h.2.2.2.2.2.2.1
theorem VR.tr {C0 D0 : Mm} {l kd m : Nat} {C D : Mm} (h : VR C0 D0 l kd m C D) : ∃ t, t ≤ 30 ∧ D 0 19 = nI t ∧ C 157 1 = nI t ∧ ∀ j, j < t → C 158 j = D 12 j := h.2.2.2.2.2.2.2.1
theorem VR.fc {C0 D0 : Mm} {l kd m : Nat} {C D : Mm} (h : VR C0 D0 l kd m C D) : ∀ a, a ≠ 156 → a ≠ 157 → a ≠ 158 → C a = C0 a := h.2.2.2.2.2.2.2.2.1
theorem VR.fd {C0 D0 : Mm} {l kd m : Nat} {C D : Mm} (h : VR C0 D0 l kd m C D) : ∀ a, a ≠ 0 → a ≠ 12 → D a = D0 a := h.2.2.2.2.2.2.2.2.2.1
theorem VR.f0 {C0 D0 : Mm} {l kd m : Nat} {C D : Mm} (h : VR C0 D0 l kd m C D) : ∀ j, j ≠ 19 → j ≠ 20 → j ≠ 21 → D 0 j = D0 0 j := h.2.2.2.2.2.2.2.2.2.2.1
theorem VR.hl {C0 D0 : Mm} {l kd m : Nat} {C D : Mm} (h : VR C0 D0 l kd m C D) : l < 24 := h.2.2.2.2.2.2.2.2.2.2.2.1
theorem VR.hk {C0 D0 : Mm} {l kd m : Nat} {C D : Mm} (h : VR C0 D0 l kd m C D) : kd < 7 := h.2.2.2.2.2.2.2.2.2.2.2.2.1
theorem VR.hm {C0 D0 : Mm} {l kd m : Nat} {C D : Mm} (h : VR C0 D0 l kd m C D) : m < 10 := h.2.2.2.2.2.2.2.2.2.2.2.2.2
theorem VR.tr1 {C0 D0 : Mm} {l kd m : Nat} {C D : Mm} (h : VR C0 D0 l kd m C D) (b : Int32) : ∃ x C' D', fX5_add 157 b C = some (x, C') ∧ fX10_begins b D = some ((), D') ∧ VR C0 D0 l kd m C' D' := by
  obtain ⟨t, t30, t1, t2, t3⟩ := h.tr
  have hc : isC layC 157 5 = true := by decide
  have hcap : aN layC (157 + 1) = 30 := by decide
  unfold fX10_begins fX10_begins_B29
  rw [t1]
  by_cases ht : t = 30
  · rw [e_addF hc t2 (by omega), if_pos (show (30 : Int32) ≤ nI t from nI_le (a := 30) (by omega) (by omega))]
    exact ⟨_, _, _, rfl, rfl, h⟩
  · rw [e_add hc t2 (by omega), if_neg (show ¬ (30 : Int32) ≤ nI t from nI_ge (b := 30) (by omega) (by omega)), inb_nI (by omega) (by omega), gd_t, ix_nI (by omega), lt_e, lt_e, wr_c (show (0 : Nat) ≠ 12 by decide), t1, nI_1]
    refine ⟨_, _, _, rfl, rfl, ⟨?_, ?_, ?_, ?_, ?_, ?_, ?_, ⟨t + 1, by omega, wr_s, wr_s, fun j hj => ?_⟩, fun a a1 a2 a3 => ?_, fun a a1 a2 => ?_, fun j j1 j2 j3 => ?_, h.hl, h.hk, h.hm⟩⟩
    · rw [wr_c (by decide), wr_c (by decide)]; exact h.k2
    · rw [wr_c (by decide), wr_c (by decide)]; exact h.k3
    · rw [wr_c (by decide), wr_c (by decide)]; exact h.k4
    · rw [wr_j (by decide), wr_c (by decide)]; exact h.d20
    · rw [wr_c (by decide), wr_c (by decide)]; exact h.s0
    · rw [wr_c (by decide), wr_c (by decide)]; exact h.s1
    · rw [wr_c (by decide), wr_c (by decide), wr_j (by decide), wr_c (by decide)]; exact h.pt
    · rw [wr_c (by decide), show (158 : Nat) = 157 + 1 from rfl, wr_at, wr_c (by decide), wr_at]
      by_cases e : j = t
      · rw [if_pos ⟨rfl, e⟩, if_pos ⟨rfl, e⟩]
      · rw [if_neg (fun q => e q.2), if_neg (fun q => e q.2)]; exact t3 j (by omega)
    · rw [wr_c (by omega), wr_c (by omega)]; exact h.fc a a1 a2 a3
    · rw [wr_c a1, wr_c a2]; exact h.fd a a1 a2
    · rw [wr_j j1, wr_c (by decide)]; exact h.f0 j j1 j2 j3
theorem sb {z1 : Int32 → Int32 → Int32 → Int32 → Mm → Option (Int32 × Mm)} {z2 : Int32 → Int32 → Int32 → Mm → Option (Int32 × Mm)} {k v x a4 b : Int32} {C C1 : Mm} {tr : Bool} (hb : fX8_bodyFrom k v C = some (b, C)) (hnz : ¬ b = 0) (hdp : a4 < 40) (hadd : fX5_add 157 b C = some (tr, C1)) (hr : inb (hd (b / 10 - 1) 0 6) 7 = true) : fX8_speak_b z1 z2 k v x a4 C = (if b = 10 then (some (x + (C1 156 4), C1)) else if b = 11 then (bd (z1 (C1 156 2) 0 x (a4 + 1) C1) fun r M => some (r * 2, M)) else if b = 12 then (bd (z1 (C1 156 2) 1 x (a4 + 1) C1) fun r M => some (r - (M 156 3), M)) else if b = 13 then (bd (fX8_part x C1) fun r M => some (r, M)) else if b = 20 then (bd (z1 (tabA (ix (hd (b / 10 - 1) 0 6))) 0 x (a4 + 1) C1) fun r M => some (r - 6, M)) else if b = 21 then (bd (z2 (tabA (ix (hd (b / 10 - 1) 0 6))) x (a4 + 1) C1) fun r M => some (r, M)) else if b = 30 then (bd (z1 (tabA (ix (hd (b / 10 - 1) 0 6))) 1 x (a4 + 1) C1) fun r M => some (0 - r, M)) else if b = 40 then (bd (z1 (tabA (ix (hd (b / 10 - 1) 0 6))) 0 x (a4 + 1) C1) fun r M => some (r * 3, M)) else if b = 41 then (bd (z1 (tabA (ix (hd (b / 10 - 1) 0 6))) 2 x (a4 + 1) C1) fun r M => some (r ^^^ (M 156 4), M)) else if b = 50 then (bd (z1 (tabA (ix (hd (b / 10 - 1) 0 6))) 1 (x + 1) (a4 + 1) C1) fun r M => some (r, M)) else if b = 60 then (bd (z1 (tabA (ix (hd (b / 10 - 1) 0 6))) 2 (x / 2) (a4 + 1) C1) fun r M => some (r, M)) else if b = 70 then (some (2, C1)) else bd (z1 (tabA (ix (hd (b / 10 - 1) 0 6))) 1 x (a4 + 1) C1) fun r M => some (r + (M 156 3), M)) := by
  unfold fX8_speak_b
  rw [hb, bd_s, if_neg hnz, if_pos hdp, hadd, bd_s, e_hold, bd_s, hr]
  rfl
/-- the body of voice v that kind k has: its own or the nearest above -/
def bdy (k v : Nat) : Int32 := if tabB (4 * k + v) = 0 then (if tabB (4 * ix (tabA k) + v) = 0 then tabB (4 * ix (tabA (ix (tabA k))) + v) else tabB (4 * ix (tabA k) + v)) else tabB (4 * k + v)
theorem e_body (k v : Nat) (hk : k < 7) (hv : v < 4) (M : Mm) : fX8_bodyFrom (nI k) (nI v) M = some (bdy k v, M) := by
  rcases (show k = 0 ∨ k = 1 ∨ k = 2 ∨ k = 3 ∨ k = 4 ∨ k = 5 ∨ k = 6 by omega) with rfl | rfl | rfl | rfl | rfl | rfl | rfl <;> rcases (show v = 0 ∨ v = 1 ∨ v = 2 ∨ v = 3 by omega) with rfl | rfl | rfl | rfl <;> rfl
def Two (C0 D0 : Mm) (l kd m : Nat) (x y : Option (Int32 × Mm)) : Prop := ∃ r C' D', x = some (r, C') ∧ y = some (r, D') ∧ VR C0 D0 l kd m C' D'
theorem bd_id (x : Option (Int32 × Mm)) : (bd x fun r M => some (r, M)) = x := by
  cases x with
  | none => rfl
  | some p => rfl
theorem sp_same {d k k' v : Nat} (hk : k < 7) (hk' : k' < 7) (hv : v < 4) (e : bdy k v = bdy k' v) (x a4 : Int32) (C : Mm) : (grX8_speak (d + 1)).1 (nI k) (nI v) x a4 C = (grX8_speak (d + 1)).1 (nI k') (nI v) x a4 C := by
  show fX8_speak_b _ _ _ _ _ _ _ = fX8_speak_b _ _ _ _ _ _ _
  unfold fX8_speak_b
  rw [e_body k v hk hv, e_body k' v hk' hv, e]
theorem gs1 (d : Nat) (k v x a4 : Int32) (C : Mm) : (grX8_speak (d + 1)).1 k v x a4 C = fX8_speak_b (grX8_speak d).1 (grX8_speak d).2 k v x a4 C := rfl
theorem two_f {C0 D0 : Mm} {l kd m : Nat} {x y : Option (Int32 × Mm)} (h : Two C0 D0 l kd m x y) (f g : Int32 → Mm → Int32) (hfg : ∀ r C D, VR C0 D0 l kd m C D → f r C = g r D) : Two C0 D0 l kd m (bd x fun r M => some (f r M, M)) (bd y fun r M => some (g r M, M)) := by
  obtain ⟨r, C', D', e1, e2, e3⟩ := h
  rw [e1, e2, bd_s, bd_s]
  exact ⟨_, _, _, rfl, by rw [hfg r C' D' e3], e3⟩
theorem dp_lt {dp : Nat} (h : dp < 40) : nI dp < (40 : Int32) := nI_lt (b := 40) h (by omega)
theorem v0 {C0 D0 : Mm} {l kd m : Nat} {k : Nat} (hk : k < 7) (x : Int32) (d e dp : Nat) (hdp : dp + 3 < 40) {C D : Mm} (h : VR C0 D0 l kd m C D) : Two C0 D0 l kd m ((grX8_speak (d + 3)).1 (nI k) (nI 0) x (nI dp) C) (grX10_meltsBy (e + 3) (nI k) x D) := by
  have b0 : ∀ (d e dp : Nat) (C D : Mm), dp < 40 → VR C0 D0 l kd m C D → Two C0 D0 l kd m ((grX8_speak (d + 1)).1 (nI 0) (nI 0) x (nI dp) C) (grX10_meltsBy (e + 1) (nI 0) x D) := fun d e dp C D hd h => by
    obtain ⟨tr, C1, D1, e1, e2, e3⟩ := h.tr1 10
    refine ⟨x + nI l, C1, D1, ?_, ?_, e3⟩
    · refine (gs1 d _ _ _ _ _).trans ?_
      rw [sb (b := 10) (e_body 0 0 (by omega) (by omega) C) (by decide) (dp_lt hd) e1 (by decide), if_pos rfl, e3.k4]
    · show (bd (fX10_begins 10 D) fun _ M => some (x + M 0 20, M)) = _
      rw [e2, bd_s, e3.d20]
  have b1 : ∀ (d e dp : Nat) (C D : Mm), dp + 1 < 40 → VR C0 D0 l kd m C D → Two C0 D0 l kd m ((grX8_speak (d + 2)).1 (nI 1) (nI 0) x (nI dp) C) (grX10_meltsBy (e + 2) (nI 1) x D) := fun d e dp C D hd h => by
    obtain ⟨tr, C1, D1, e1, e2, e3⟩ := h.tr1 20
    have q1 : (grX8_speak (d + 2)).1 (nI 1) (nI 0) x (nI dp) C = bd ((grX8_speak (d + 1)).1 (nI 0) (nI 0) x (nI (dp + 1)) C1) fun r M => some (r - 6, M) := by
      refine (gs1 (d + 1) _ _ _ _ _).trans ?_
      rw [sb (b := 20) (e_body 1 0 (by omega) (by omega) C) (by decide) (dp_lt (by omega)) e1 (by decide), nI_1]; rfl
    have q2 : grX10_meltsBy (e + 2) (nI 1) x D = bd (grX10_meltsBy (e + 1) (nI 0) x D1) fun r M => some (r - 6, M) := by
      show (bd (fX10_begins 20 D) fun _ M4 => _) = _
      rw [e2, bd_s]; rfl
    rw [q1, q2]
    exact two_f (b0 d e (dp + 1) C1 D1 (by omega) e3) _ _ (fun _ _ _ _ => rfl)
  rcases (show k = 0 ∨ k = 1 ∨ k = 2 ∨ k = 3 ∨ k = 4 ∨ k = 5 ∨ k = 6 by omega) with rfl | rfl | rfl | rfl | rfl | rfl | rfl
  · exact b0 (d + 2) (e + 2) dp C D (by omega) h
  · exact b1 (d + 1) (e + 1) dp C D (by omega) h
  · rw [sp_same (d := d + 2) (k := 2) (k' := 0) (by omega) (by omega) (by omega) (by decide)]
    rw [show grX10_meltsBy (e + 3) (nI 2) x D = grX10_meltsBy (e + 2) (nI 0) x D from bd_id _]
    exact b0 (d + 2) (e + 1) dp C D (by omega) h
  · obtain ⟨tr, C1, D1, e1, e2, e3⟩ := h.tr1 40
    have q1 : (grX8_speak (d + 3)).1 (nI 3) (nI 0) x (nI dp) C = bd ((grX8_speak (d + 2)).1 (nI 1) (nI 0) x (nI (dp + 1)) C1) fun r M => some (r * 3, M) := by
      refine (gs1 (d + 2) _ _ _ _ _).trans ?_
      rw [sb (b := 40) (e_body 3 0 (by omega) (by omega) C) (by decide) (dp_lt (by omega)) e1 (by decide), nI_1]; rfl
    have q2 : grX10_meltsBy (e + 3) (nI 3) x D = bd (grX10_meltsBy (e + 2) (nI 1) x D1) fun r M => some (r * 3, M) := by
      show (bd (fX10_begins 40 D) fun _ M4 => _) = _
      rw [e2, bd_s]; rfl
    rw [q1, q2]
    exact two_f (b1 d e (dp + 1) C1 D1 (by omega) e3) _ _ (fun _ _ _ _ => rfl)
  · rw [sp_same (d := d + 2) (k := 4) (k' := 0) (by omega) (by omega) (by omega) (by decide)]
    rw [show grX10_meltsBy (e + 3) (nI 4) x D = grX10_meltsBy (e + 2) (nI 2) x D from bd_id _, show grX10_meltsBy (e + 2) (nI 2) x D = grX10_meltsBy (e + 1) (nI 0) x D from bd_id _]
    exact b0 (d + 2) e dp C D (by omega) h
  · rw [sp_same (d := d + 2) (k := 5) (k' := 0) (by omega) (by omega) (by omega) (by decide)]
    rw [show grX10_meltsBy (e + 3) (nI 5) x D = grX10_meltsBy (e + 2) (nI 0) x D from bd_id _]
    exact b0 (d + 2) (e + 1) dp C D (by omega) h
  · obtain ⟨tr, C1, D1, e1, e2, e3⟩ := h.tr1 70
    refine ⟨2, C1, D1, ?_, ?_, e3⟩
    · refine (gs1 (d + 2) _ _ _ _ _).trans ?_
      rw [sb (b := 70) (e_body 6 0 (by omega) (by omega) C) (by decide) (dp_lt (by omega)) e1 (by decide)]; rfl
    · show (bd (fX10_begins 70 D) fun _ M => some (2, M)) = _
      rw [e2, bd_s]
theorem VR.kn {C0 D0 : Mm} {l kd m : Nat} {C D : Mm} (h : VR C0 D0 l kd m C D) : fX10_kindNow D = some (nI kd, D) := by
  unfold fX10_kindNow; rw [h.d20, e_its0 h.hl, bd_s, h.s0]
theorem VR.mn {C0 D0 : Mm} {l kd m : Nat} {C D : Mm} (h : VR C0 D0 l kd m C D) : fX10_mNow D = some (nI m, D) := by
  unfold fX10_mNow; rw [h.d20, e_its1 h.hl, bd_s, h.s1]
theorem v1 {C0 D0 : Mm} {l kd m : Nat} {k : Nat} (hk : k < 7) (x : Int32) (d e dp : Nat) (hdp : dp + 6 < 40) {C D : Mm} (h : VR C0 D0 l kd m C D) : Two C0 D0 l kd m ((grX8_speak (d + 6)).1 (nI k) (nI 1) x (nI dp) C) (grX10_readsBy (e + 3) (nI k) x D) := by
  have b0 : ∀ (x : Int32) (d e dp : Nat) (C D : Mm), dp + 4 < 40 → VR C0 D0 l kd m C D → Two C0 D0 l kd m ((grX8_speak (d + 4)).1 (nI 0) (nI 1) x (nI dp) C) (grX10_readsBy (e + 1) (nI 0) x D) := fun x d e dp C D hd h => by
    obtain ⟨tr, C1, D1, e1, e2, e3⟩ := h.tr1 11
    have q1 : (grX8_speak (d + 4)).1 (nI 0) (nI 1) x (nI dp) C = bd ((grX8_speak (d + 3)).1 (nI kd) (nI 0) x (nI (dp + 1)) C1) fun r M => some (r * 2, M) := by
      refine (gs1 (d + 3) _ _ _ _ _).trans ?_
      rw [sb (b := 11) (e_body 0 1 (by omega) (by omega) C) (by decide) (dp_lt (by omega)) e1 (by decide), nI_1, e3.k2]; rfl
    have q2 : grX10_readsBy (e + 1) (nI 0) x D = bd (grX10_meltsBy (42 + 3) (nI kd) x D1) fun r M => some (r * 2, M) := by
      show (bd (fX10_begins 11 D) fun _ M2 => bd (fX10_kindNow M2) fun r3 M4 => bd (fX10_meltsBy DPV r3 x M4) fun r5 M6 => some (r5 * 2, M6)) = _
      rw [e2, bd_s, e3.kn, bd_s]; rfl
    rw [q1, q2]
    exact two_f (v0 e3.hk x d 42 (dp + 1) (by omega) e3) _ _ (fun _ _ _ _ => rfl)
  have b2 : ∀ (x : Int32) (d e dp : Nat) (C D : Mm), dp + 5 < 40 → VR C0 D0 l kd m C D → Two C0 D0 l kd m ((grX8_speak (d + 5)).1 (nI 2) (nI 1) x (nI dp) C) (grX10_readsBy (e + 2) (nI 2) x D) := fun x d e dp C D hd h => by
    obtain ⟨tr, C1, D1, e1, e2, e3⟩ := h.tr1 30
    have q1 : (grX8_speak (d + 5)).1 (nI 2) (nI 1) x (nI dp) C = bd ((grX8_speak (d + 4)).1 (nI 0) (nI 1) x (nI (dp + 1)) C1) fun r M => some (0 - r, M) := by
      refine (gs1 (d + 4) _ _ _ _ _).trans ?_
      rw [sb (b := 30) (e_body 2 1 (by omega) (by omega) C) (by decide) (dp_lt (by omega)) e1 (by decide), nI_1]; rfl
    have q2 : grX10_readsBy (e + 2) (nI 2) x D = bd (grX10_readsBy (e + 1) (nI 0) x D1) fun r M => some (0 - r, M) := by
      show (bd (fX10_begins 30 D) fun _ M4 => _) = _
      rw [e2, bd_s]; rfl
    rw [q1, q2]
    exact two_f (b0 x d e (dp + 1) C1 D1 (by omega) e3) _ _ (fun _ _ _ _ => rfl)
  rcases (show k = 0 ∨ k = 1 ∨ k = 2 ∨ k = 3 ∨ k = 4 ∨ k = 5 ∨ k = 6 by omega) with rfl | rfl | rfl | rfl | rfl | rfl | rfl
  · exact b0 x (d + 2) (e + 2) dp C D (by omega) h
  · rw [sp_same (d := d + 5) (k := 1) (k' := 0) (by omega) (by omega) (by omega) (by decide)]
    rw [show grX10_readsBy (e + 3) (nI 1) x D = grX10_readsBy (e + 2) (nI 0) x D from bd_id _]
    exact b0 x (d + 2) (e + 1) dp C D (by omega) h
  · exact b2 x (d + 1) (e + 1) dp C D (by omega) h
  · rw [sp_same (d := d + 5) (k := 3) (k' := 0) (by omega) (by omega) (by omega) (by decide)]
    rw [show grX10_readsBy (e + 3) (nI 3) x D = grX10_readsBy (e + 2) (nI 1) x D from bd_id _, show grX10_readsBy (e + 2) (nI 1) x D = grX10_readsBy (e + 1) (nI 0) x D from bd_id _]
    exact b0 x (d + 2) e dp C D (by omega) h
  · obtain ⟨tr, C1, D1, e1, e2, e3⟩ := h.tr1 50
    have q1 : (grX8_speak (d + 6)).1 (nI 4) (nI 1) x (nI dp) C = bd ((grX8_speak (d + 5)).1 (nI 2) (nI 1) (x + 1) (nI (dp + 1)) C1) fun r M => some (r, M) := by
      refine (gs1 (d + 5) _ _ _ _ _).trans ?_
      rw [sb (b := 50) (e_body 4 1 (by omega) (by omega) C) (by decide) (dp_lt (by omega)) e1 (by decide), nI_1]; rfl
    have q2 : grX10_readsBy (e + 3) (nI 4) x D = bd (grX10_readsBy (e + 2) (nI 2) (x + 1) D1) fun r M => some (r, M) := by
      show (bd (fX10_begins 50 D) fun _ M4 => _) = _
      rw [e2, bd_s]; rfl
    rw [q1, q2]
    exact two_f (b2 (x + 1) d e (dp + 1) C1 D1 (by omega) e3) _ _ (fun _ _ _ _ => rfl)
  · rw [sp_same (d := d + 5) (k := 5) (k' := 0) (by omega) (by omega) (by omega) (by decide)]
    rw [show grX10_readsBy (e + 3) (nI 5) x D = grX10_readsBy (e + 2) (nI 0) x D from bd_id _]
    exact b0 x (d + 2) (e + 1) dp C D (by omega) h
  · obtain ⟨tr, C1, D1, e1, e2, e3⟩ := h.tr1 71
    have q1 : (grX8_speak (d + 6)).1 (nI 6) (nI 1) x (nI dp) C = bd ((grX8_speak (d + 5)).1 (nI 0) (nI 1) x (nI (dp + 1)) C1) fun r M => some (r + (M 156 3), M) := by
      refine (gs1 (d + 5) _ _ _ _ _).trans ?_
      rw [sb (b := 71) (e_body 6 1 (by omega) (by omega) C) (by decide) (dp_lt (by omega)) e1 (by decide), nI_1]; rfl
    have q2 : grX10_readsBy (e + 3) (nI 6) x D = bd (grX10_readsBy (e + 2) (nI 0) x D1) fun r M => bd (fX10_mNow M) fun r37 M38 => some (r + r37, M38) := by
      show (bd (fX10_begins 71 D) fun _ M4 => _) = _
      rw [e2, bd_s]; rfl
    obtain ⟨r, C2, D2, s1, s2, s3⟩ := b0 x (d + 1) (e + 1) (dp + 1) C1 D1 (by omega) e3
    rw [q1, q2, s1, bd_s, s2, bd_s, s3.mn, bd_s, s3.k3]
    exact ⟨_, _, _, rfl, rfl, s3⟩
theorem v2 {C0 D0 : Mm} {l kd m : Nat} {k : Nat} (hk : k < 7) (x : Int32) (d e dp : Nat) (hdp : dp + 8 < 40) {C D : Mm} (h : VR C0 D0 l kd m C D) : Two C0 D0 l kd m ((grX8_speak (d + 8)).1 (nI k) (nI 2) x (nI dp) C) (grX10_dripsBy (e + 3) (nI k) x D) := by
  have b0 : ∀ (x : Int32) (d e dp : Nat) (C D : Mm), dp + 7 < 40 → VR C0 D0 l kd m C D → Two C0 D0 l kd m ((grX8_speak (d + 7)).1 (nI 0) (nI 2) x (nI dp) C) (grX10_dripsBy (e + 1) (nI 0) x D) := fun x d e dp C D hd h => by
    obtain ⟨tr, C1, D1, e1, e2, e3⟩ := h.tr1 12
    have q1 : (grX8_speak (d + 7)).1 (nI 0) (nI 2) x (nI dp) C = bd ((grX8_speak (d + 6)).1 (nI kd) (nI 1) x (nI (dp + 1)) C1) fun r M => some (r - (M 156 3), M) := by
      refine (gs1 (d + 6) _ _ _ _ _).trans ?_
      rw [sb (b := 12) (e_body 0 2 (by omega) (by omega) C) (by decide) (dp_lt (by omega)) e1 (by decide), nI_1, e3.k2]; rfl
    have q2 : grX10_dripsBy (e + 1) (nI 0) x D = bd (grX10_readsBy (42 + 3) (nI kd) x D1) fun r M => bd (fX10_mNow M) fun r7 M8 => some (r - r7, M8) := by
      show (bd (fX10_begins 12 D) fun _ M2 => bd (fX10_kindNow M2) fun r3 M4 => bd (fX10_readsBy DPV r3 x M4) fun r5 M6 => bd (fX10_mNow M6) fun r7 M8 => some (r5 - r7, M8)) = _
      rw [e2, bd_s, e3.kn, bd_s]; rfl
    obtain ⟨r, C2, D2, s1, s2, s3⟩ := v1 e3.hk x d 42 (dp + 1) (by omega) e3
    rw [q1, q2, s1, bd_s, s2, bd_s, s3.mn, bd_s, s3.k3]
    exact ⟨_, _, _, rfl, rfl, s3⟩
  rcases (show k = 0 ∨ k = 1 ∨ k = 2 ∨ k = 3 ∨ k = 4 ∨ k = 5 ∨ k = 6 by omega) with rfl | rfl | rfl | rfl | rfl | rfl | rfl
  · exact b0 x (d + 1) (e + 2) dp C D (by omega) h
  · rw [sp_same (d := d + 7) (k := 1) (k' := 0) (by omega) (by omega) (by omega) (by decide)]
    rw [show grX10_dripsBy (e + 3) (nI 1) x D = grX10_dripsBy (e + 2) (nI 0) x D from bd_id _]
    exact b0 x (d + 1) (e + 1) dp C D (by omega) h
  · rw [sp_same (d := d + 7) (k := 2) (k' := 0) (by omega) (by omega) (by omega) (by decide)]
    rw [show grX10_dripsBy (e + 3) (nI 2) x D = grX10_dripsBy (e + 2) (nI 0) x D from bd_id _]
    exact b0 x (d + 1) (e + 1) dp C D (by omega) h
  · obtain ⟨tr, C1, D1, e1, e2, e3⟩ := h.tr1 41
    have q1 : (grX8_speak (d + 8)).1 (nI 3) (nI 2) x (nI dp) C = bd ((grX8_speak (d + 7)).1 (nI 1) (nI 2) x (nI (dp + 1)) C1) fun r M => some (r ^^^ (M 156 4), M) := by
      refine (gs1 (d + 7) _ _ _ _ _).trans ?_
      rw [sb (b := 41) (e_body 3 2 (by omega) (by omega) C) (by decide) (dp_lt (by omega)) e1 (by decide), nI_1]; rfl
    have q2 : grX10_dripsBy (e + 3) (nI 3) x D = bd (grX10_dripsBy (e + 2) (nI 1) x D1) fun r M => some (r ^^^ (M 0 20), M) := by
      show (bd (fX10_begins 41 D) fun _ M4 => _) = _
      rw [e2, bd_s]; rfl
    rw [q1, q2, sp_same (d := d + 6) (k := 1) (k' := 0) (by omega) (by omega) (by omega) (by decide), show grX10_dripsBy (e + 2) (nI 1) x D1 = grX10_dripsBy (e + 1) (nI 0) x D1 from bd_id _]
    exact two_f (b0 x d e (dp + 1) C1 D1 (by omega) e3) _ _ (fun r C D h => by rw [h.k4, h.d20])
  · rw [sp_same (d := d + 7) (k := 4) (k' := 0) (by omega) (by omega) (by omega) (by decide)]
    rw [show grX10_dripsBy (e + 3) (nI 4) x D = grX10_dripsBy (e + 2) (nI 2) x D from bd_id _, show grX10_dripsBy (e + 2) (nI 2) x D = grX10_dripsBy (e + 1) (nI 0) x D from bd_id _]
    exact b0 x (d + 1) e dp C D (by omega) h
  · obtain ⟨tr, C1, D1, e1, e2, e3⟩ := h.tr1 60
    have q1 : (grX8_speak (d + 8)).1 (nI 5) (nI 2) x (nI dp) C = bd ((grX8_speak (d + 7)).1 (nI 0) (nI 2) (x / 2) (nI (dp + 1)) C1) fun r M => some (r, M) := by
      refine (gs1 (d + 7) _ _ _ _ _).trans ?_
      rw [sb (b := 60) (e_body 5 2 (by omega) (by omega) C) (by decide) (dp_lt (by omega)) e1 (by decide), nI_1]; rfl
    have q2 : grX10_dripsBy (e + 3) (nI 5) x D = bd (grX10_dripsBy (e + 2) (nI 0) (x / 2) D1) fun r M => some (r, M) := by
      show (bd (fX10_begins 60 D) fun _ M4 => _) = _
      rw [e2, bd_s]; rfl
    rw [q1, q2]
    exact two_f (b0 (x / 2) d (e + 1) (dp + 1) C1 D1 (by omega) e3) _ _ (fun _ _ _ _ => rfl)
  · rw [sp_same (d := d + 7) (k := 6) (k' := 0) (by omega) (by omega) (by omega) (by decide)]
    rw [show grX10_dripsBy (e + 3) (nI 6) x D = grX10_dripsBy (e + 2) (nI 0) x D from bd_id _]
    exact b0 x (d + 1) (e + 1) dp C D (by omega) h
theorem sub_z {a b : Int32} : (a - b = 0) = (a = b) := by
  apply propext
  constructor
  · intro h
    have : a - b + b = b := by rw [h, Int32.zero_add]
    rw [Int32.sub_add_cancel] at this; exact this
  · intro h; rw [h, Int32.sub_self]
theorem VR.parted {C0 D0 : Mm} {l kd m : Nat} {C D : Mm} (h : VR C0 D0 l kd m C D) (w : Int32) : VR C0 D0 l kd m (wr C 156 1 w) (wr D 0 21 w) := by
  obtain ⟨t, t30, t1, t2, t3⟩ := h.tr
  refine ⟨?_, ?_, ?_, ?_, ?_, ?_, ?_, ⟨t, t30, ?_, ?_, fun j hj => ?_⟩, fun a a1 a2 a3 => ?_, fun a a1 a2 => ?_, fun j j1 j2 j3 => ?_, h.hl, h.hk, h.hm⟩
  · rw [wr_j (by decide)]; exact h.k2
  · rw [wr_j (by decide)]; exact h.k3
  · rw [wr_j (by decide)]; exact h.k4
  · rw [wr_j (by decide)]; exact h.d20
  · rw [wr_c (by decide)]; exact h.s0
  · rw [wr_c (by decide)]; exact h.s1
  · rw [wr_s, wr_s]
  · rw [wr_j (by decide)]; exact t1
  · rw [wr_c (by decide)]; exact t2
  · rw [wr_c (by decide), wr_c (by decide)]; exact t3 j hj
  · rw [wr_c a1]; exact h.fc a a1 a2 a3
  · rw [wr_c a1]; exact h.fd a a1 a2
  · rw [wr_j j3]; exact h.f0 j j1 j2 j3
theorem v3 {C0 D0 : Mm} {l kd m : Nat} {k : Nat} (hk : k < 7) (x : Int32) (d e dp : Nat) (hdp : dp + 9 < 40) {C D : Mm} (h : VR C0 D0 l kd m C D) : Two C0 D0 l kd m ((grX8_speak (d + 9)).1 (nI k) (nI 3) x (nI dp) C) (grX10_castsBy (e + 3) (nI k) x D) := by
  have b0 : ∀ (d e dp : Nat) (C D : Mm), dp < 40 → VR C0 D0 l kd m C D → Two C0 D0 l kd m ((grX8_speak (d + 1)).1 (nI 0) (nI 3) x (nI dp) C) (grX10_castsBy (e + 1) (nI 0) x D) := fun d e dp C D hd h => by
    obtain ⟨tr, C1, D1, e1, e2, e3⟩ := h.tr1 13
    have q1 : (grX8_speak (d + 1)).1 (nI 0) (nI 3) x (nI dp) C = bd (fX8_part x C1) fun r M => some (r, M) := by
      refine (gs1 d _ _ _ _ _).trans ?_
      rw [sb (b := 13) (e_body 0 3 (by omega) (by omega) C) (by decide) (dp_lt (by omega)) e1 (by decide)]; rfl
    have q2 : grX10_castsBy (e + 1) (nI 0) x D = (if nI m - nI l = 0 then fX10_castsBy_B54 (grX10_castsBy e) (nI m - nI l) x 1 D1 else fX10_castsBy_B54 (grX10_castsBy e) (nI m - nI l) x 0 D1) := by
      show (bd (fX10_begins 13 D) fun _ M2 => bd (fX10_mNow M2) fun r3 M4 => lt (r3 - M4 0 20) fun x5 => if x5 = 0 then fX10_castsBy_B54 (grX10_castsBy e) x5 x 1 M4 else fX10_castsBy_B54 (grX10_castsBy e) x5 x 0 M4) = _
      rw [e2, bd_s, e3.mn, bd_s, lt_e, e3.d20]
    rw [q1, q2, bd_id]
    unfold fX8_part fX8_part_B17 fX10_castsBy_B54 fX10_castsBy_B78
    rw [e3.k3, e3.k4]
    by_cases hq : nI m = nI l
    · rw [if_pos hq, if_pos (by rw [sub_z]; exact hq), show isb 1 = true by decide, gd_t, gd_t, lt_e, lt_e, wr_j (by decide), wr_j (by decide), e3.k3, e3.k4, e_quotient, bd_s, if_pos (by rw [sub_z]; exact hq), if_pos (by rw [sub_z]; exact hq)]
      exact ⟨_, _, _, rfl, rfl, e3.parted 1⟩
    · have hz : ¬ nI m - nI l = 0 := by rw [sub_z]; exact hq
      rw [if_neg hq, if_neg hz, show isb 0 = true by decide, gd_t, gd_t, lt_e, lt_e, wr_j (by decide), wr_j (by decide), e3.k3, e3.k4, e_quotient, bd_s, if_neg hz, if_neg hz]
      by_cases hm1 : nI m - nI l = -1
      · rw [if_pos hm1, hm1, i32_divm1]
        exact ⟨_, _, _, rfl, rfl, e3.parted 0⟩
      · rw [if_neg hm1, show nz (nI m - nI l) = true by simp [nz, hz], gd_t]
        exact ⟨_, _, _, rfl, rfl, e3.parted 0⟩
  have b1 : ∀ (d e dp : Nat) (C D : Mm), dp + 8 < 40 → VR C0 D0 l kd m C D → Two C0 D0 l kd m ((grX8_speak (d + 8)).1 (nI 1) (nI 3) x (nI dp) C) (grX10_castsBy (e + 2) (nI 1) x D) := fun d e dp C D hd h => by
    obtain ⟨tr, C1, D1, e1, e2, e3⟩ := h.tr1 21
    obtain ⟨r, C2, D2, s1, s2, s3⟩ := b0 (d + 5) e (dp + 1) C1 D1 (by omega) e3
    obtain ⟨r2, C3, D3, t1, t2, t3⟩ := v1 s3.hk 1 d 42 (dp + 1) (by omega) s3
    have q1 : (grX8_speak (d + 8)).1 (nI 1) (nI 3) x (nI dp) C = bd (bd ((grX8_speak (d + 6)).1 (nI 0) (nI 3) x (nI (dp + 1)) C1) fun r1 M2 => if (M2 156 1) = 0 then (bd ((grX8_speak (d + 6)).1 (M2 156 2) (nI 1) 1 (nI (dp + 1)) M2) fun r3 M4 => some (r1 + r3, M4)) else some (0, M2)) fun r M => some (r, M) := by
      refine (gs1 (d + 7) _ _ _ _ _).trans ?_
      rw [sb (b := 21) (e_body 1 3 (by omega) (by omega) C) (by decide) (dp_lt (by omega)) e1 (by decide), nI_1]; rfl
    have q2 : grX10_castsBy (e + 2) (nI 1) x D = bd (grX10_castsBy (e + 1) (nI 0) x D1) fun r13 M14 => if (M14 0 21) = 0 then (bd (fX10_kindNow M14) fun r15 M16 => bd (grX10_readsBy (42 + 3) r15 1 M16) fun r17 M18 => some (r13 + r17, M18)) else some (0, M14) := by
      show (bd (fX10_begins 21 D) fun _ M4 => _) = _
      rw [e2, bd_s]; rfl
    rw [q1, q2, bd_id, s1, bd_s, s2, bd_s, s3.pt]
    by_cases hz : D2 0 21 = 0
    · rw [if_pos hz, if_pos hz, s3.k2, t1, bd_s, s3.kn, bd_s, t2, bd_s]
      exact ⟨_, _, _, rfl, rfl, t3⟩
    · rw [if_neg hz, if_neg hz]
      exact ⟨_, _, _, rfl, rfl, s3⟩
  rcases (show k = 0 ∨ k = 1 ∨ k = 2 ∨ k = 3 ∨ k = 4 ∨ k = 5 ∨ k = 6 by omega) with rfl | rfl | rfl | rfl | rfl | rfl | rfl
  · exact b0 (d + 8) (e + 2) dp C D (by omega) h
  · exact b1 (d + 1) (e + 1) dp C D (by omega) h
  · rw [sp_same (d := d + 8) (k := 2) (k' := 0) (by omega) (by omega) (by omega) (by decide)]
    rw [show grX10_castsBy (e + 3) (nI 2) x D = grX10_castsBy (e + 2) (nI 0) x D from bd_id _]
    exact b0 (d + 8) (e + 1) dp C D (by omega) h
  · rw [sp_same (d := d + 8) (k := 3) (k' := 1) (by omega) (by omega) (by omega) (by decide)]
    rw [show grX10_castsBy (e + 3) (nI 3) x D = grX10_castsBy (e + 2) (nI 1) x D from bd_id _]
    exact b1 (d + 1) e dp C D (by omega) h
  · rw [sp_same (d := d + 8) (k := 4) (k' := 0) (by omega) (by omega) (by omega) (by decide)]
    rw [show grX10_castsBy (e + 3) (nI 4) x D = grX10_castsBy (e + 2) (nI 2) x D from bd_id _, show grX10_castsBy (e + 2) (nI 2) x D = grX10_castsBy (e + 1) (nI 0) x D from bd_id _]
    exact b0 (d + 8) e dp C D (by omega) h
  · rw [sp_same (d := d + 8) (k := 5) (k' := 0) (by omega) (by omega) (by omega) (by decide)]
    rw [show grX10_castsBy (e + 3) (nI 5) x D = grX10_castsBy (e + 2) (nI 0) x D from bd_id _]
    exact b0 (d + 8) (e + 1) dp C D (by omega) h
  · rw [sp_same (d := d + 8) (k := 6) (k' := 0) (by omega) (by omega) (by omega) (by decide)]
    rw [show grX10_castsBy (e + 3) (nI 6) x D = grX10_castsBy (e + 2) (nI 0) x D from bd_id _]
    exact b0 (d + 8) (e + 1) dp C D (by omega) h
