/-! PURE 30: voice. -/
theorem Rel_voice {C D C' D' : Mm} {l kd m : Nat} (h : Rel C D) (v : VR C D l kd m C' D') : Rel C' D' := by
  obtain ⟨h1, h2, h3, h4, h5, h6⟩ := h
  have fc := v.fc
  have fd := v.fd
  have f0 := v.f0
  refine ⟨by rw [fd 1 (by omega) (by omega)]; exact h1, by rw [fd 1 (by omega) (by omega)]; exact RS_frame h1 (fun a ha => fc a (by unfold shc at ha; omega) (by unfold shc at ha; omega) (by unfold shc at ha; omega)) h2, ?_, fun k k1 k2 => ?_, ?_, fun i hi => ?_⟩
  · unfold RK at *
    rw [fc 173 (by omega) (by omega) (by omega), f0 3 (by omega) (by omega) (by omega), fd 2 (by omega) (by omega)]
    exact ⟨h3.1, fun hn => ⟨(h3.2 hn).1, RS_frame (h3.2 hn).1 (fun a ha => fc a (by unfold shc at ha; omega) (by unfold shc at ha; omega) (by unfold shc at ha; omega)) (h3.2 hn).2⟩⟩
  · rw [fc 172 (by omega) (by omega) (by omega), fd 4 (by omega) (by omega)]; exact h4 k k1 k2
  · obtain ⟨t, t30, t1, t2, t3⟩ := v.tr
    exact ⟨⟨t, t30, t1⟩, by rw [t2, t1], fun j hj => t3 j (by rw [t1, ix_nI (by omega)] at hj; exact hj)⟩
  · rw [fc _ (by omega) (by omega) (by omega), fc (161 + 3 * i) (by omega) (by omega) (by omega), fc (162 + 3 * i) (by omega) (by omega) (by omega), fd 13 (by omega) (by omega), fd 14 (by omega) (by omega), fd 15 (by omega) (by omega)]; exact h6 i hi
theorem op_voice {C D : Mm} (h : Rel C D) (a w x : Int32) : Op (fX9_voice a w x C) (fX10_voice a w x D) := by
  have err : Op (fX9_voice_B20 C) (fX10_voice_B17 D) := by
    unfold fX9_voice_B20 fX10_voice_B17
    rw [e_ref1, e_err1]
    exact op_err h (by decide) (by decide)
  unfold fX9_voice fX10_voice
  rw [e_hasLetter, e_isLetter, bd_s, bd_s]
  rcases two_let h a with ⟨l, hl, hl24, rfl, w1, w2⟩ | ⟨w1, w2⟩
  · rw [w1, w2, if_pos rfl, if_pos rfl, e_isWithin, e_in, bd_s, bd_s]
    by_cases hk : wi w 0 3 = true
    · obtain ⟨q, hq, rfl⟩ := wi3 hk
      obtain ⟨kd, hkd, ekd⟩ := (h.si.2.2.1 l hl).1
      obtain ⟨m, hm, em⟩ := (h.si.2.2.1 l hl).2.1
      have ec0 : C (4 + 1 * l) 0 = nI kd := (h.rs.let hl (f := 0) (by omega)).trans ekd
      have ec1 : C (4 + 1 * l) 1 = nI m := (h.rs.let hl (f := 1) (by omega)).trans em
      rw [hk, if_pos rfl, if_pos rfl, inb_nI hl24 (by omega), gd_t, ix_nI (by omega), lt_e, lt_e, lt_e]
      unfold fX8_hear
      rw [e_clear (by decide), bd_s, lt_e, c_let l hl24, gd_t, lt_e, lt_e, lt_e]
      have x0 : wr (wr C 157 1 0) 156 1 0 (4 + 1 * l) 0 = nI kd := by rw [wr_c (by omega), wr_c (by omega)]; exact ec0
      have x1 : wr (wr (wr C 157 1 0) 156 1 0) 156 2 (nI kd) (4 + 1 * l) 1 = nI m := by rw [wr_c (by omega), wr_c (by omega), wr_c (by omega)]; exact ec1
      rw [x0, x1]
      have hv : VR C D l kd m (wr (wr (wr (wr (wr C 157 1 0) 156 1 0) 156 2 (nI kd)) 156 3 (nI m)) 156 4 (nI l)) (wr (wr (wr D 0 19 0) 0 20 (nI l)) 0 21 0) := by
        refine ⟨?_, ?_, ?_, ?_, ?_, ?_, ?_, ⟨0, by omega, ?_, ?_, fun j hj => by omega⟩, fun a a1 a2 a3 => ?_, fun a a1 a2 => ?_, fun j j1 j2 j3 => ?_, hl24, hkd, hm⟩
        · rw [wr_j (by decide), wr_j (by decide), wr_s]
        · rw [wr_j (by decide), wr_s]
        · rw [wr_s]
        · rw [wr_j (by decide), wr_s]
        · rw [wr_c (by decide), wr_c (by decide), wr_c (by decide)]; exact ekd
        · rw [wr_c (by decide), wr_c (by decide), wr_c (by decide)]; exact em
        · rw [wr_j (by decide), wr_j (by decide), wr_j (by decide), wr_s, wr_s]
        · rw [wr_j (by decide), wr_j (by decide), wr_s]; rfl
        · rw [wr_c (by decide), wr_c (by decide), wr_c (by decide), wr_c (by decide), wr_s]; rfl
        · rw [wr_c a1, wr_c a1, wr_c a1, wr_c a1, wr_c a2]
        · rw [wr_c a1, wr_c a1, wr_c a1]
        · rw [wr_j j3, wr_j j2, wr_j j1]
      generalize hCv : wr (wr (wr (wr (wr C 157 1 0) 156 1 0) 156 2 (nI kd)) 156 3 (nI m)) 156 4 (nI l) = Cv at hv ⊢
      generalize hDv : wr (wr (wr D 0 19 0) 0 20 (nI l)) 0 21 0 = Dv at hv ⊢
      rw [hv.k2, hv.kn, bd_s]
      have fin : ∀ X Y : Option (Int32 × Mm), Two C D l kd m X Y → Op (bd (bd X fun r8 M9 => some (r8, M9)) fun r8 M9 => if M9 156 1 = 0 then fX9_voice_B70 r8 M9 else bd (fX9_refuse (-1000000006) M9) fun r10 M11 => fX9_voice_B70 r10 M11) (bd Y fun r20 M21 => fX10_voice_B95 r20 M21) := fun X Y hXY => by
        obtain ⟨r, C2, D2, e1, e2, e3⟩ := hXY
        have hrel := Rel_voice h e3
        rw [e1, e2, bd_s, bd_s, bd_s]
        unfold fX9_voice_B70 fX10_voice_B95 fX10_voice_B115
        rw [e3.pt]
        by_cases hz : D2 0 21 = 0
        · rw [if_pos hz, if_pos hz]; exact ⟨_, _, _, rfl, rfl, hrel⟩
        · rw [if_neg hz, if_neg hz, e_ref6, e_err6]
          exact op_err hrel (by decide) (by decide)
      rcases (show q = 0 ∨ q = 1 ∨ q = 2 ∨ q = 3 by omega) with rfl | rfl | rfl | rfl
      · rw [if_pos (by decide)]
        exact fin _ _ (v0 hkd x 42 42 0 (by omega) hv)
      · rw [if_neg (by decide), if_pos (by decide)]
        exact fin _ _ (v1 hkd x 39 42 0 (by omega) hv)
      · rw [if_neg (by decide), if_neg (by decide), if_pos (by decide)]
        exact fin _ _ (v2 hkd x 37 42 0 (by omega) hv)
      · rw [if_neg (by decide), if_neg (by decide), if_neg (by decide)]
        exact fin _ _ (v3 hkd x 36 42 0 (by omega) hv)
    · rw [if_neg hk, if_neg hk]; exact err
  · rw [w1, w2, if_neg (by decide), if_neg (by decide)]; exact err
