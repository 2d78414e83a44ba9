/-! THE LAW: its loop. -/
theorem lw_cmp {L i : Nat} (hL : L ≤ 384) (hi : i ≤ 400) : (nI L - 6 < nI i) ↔ L < i + 6 := by
  by_cases h6 : 6 ≤ L
  · obtain ⟨k, rfl⟩ : ∃ k, L = k + 6 := ⟨L - 6, by omega⟩
    have e : nI (k + 6) - 6 = nI k := by
      rw [← nI_add]
      exact Int32.add_sub_cancel _ _
    rw [e, lt_nI (by omega) (by omega)]
    omega
  · have h1 : (nI i).toInt = i := nI_toInt (by omega)
    rw [Int32.lt_iff_toInt_lt, h1]
    rcases (show L = 0 ∨ L = 1 ∨ L = 2 ∨ L = 3 ∨ L = 4 ∨ L = 5 by omega) with rfl | rfl | rfl | rfl | rfl | rfl
    · rw [show (nI 0 - 6).toInt = -6 by decide]; omega
    · rw [show (nI 1 - 6).toInt = -5 by decide]; omega
    · rw [show (nI 2 - 6).toInt = -4 by decide]; omega
    · rw [show (nI 3 - 6).toInt = -3 by decide]; omega
    · rw [show (nI 4 - 6).toInt = -2 by decide]; omega
    · rw [show (nI 5 - 6).toInt = -1 by decide]; omega
section LOOP
variable {p : Program} {l : Launch} {e : Env} {s : State} {m : MethodId} {below : List Frame} {meth : Method} {c : Code} {b L : Nat} {xs : Nat → Int32} {G : Gx} {a2 : Nat → Nat} {cc ss : Nat} {C D : Mm} {i : Nat}
theorem w_end {lv : List (Nat × Value)} (F : LF p s m meth c b L xs G a2 cc ss) : LW p l e s m below meth c b G a2 cc ss 1377 lv [] C D := by
  intro H locs ls hP hQ hS hl
  obtain ⟨hx, hb, hr, hml, hown, hts, hX, hbl, hlo, hK, hE1, hE2, hI1, hI2, hR1, hR2, hc1, hs1, hL⟩ := id F
  refine lv_iconst (v := 1) hx hb dl_1377 (by decide +kernel) ?_
  exact va_forget hS.2.2 (W.widen hc1 hs1 (lw_ret hx hb hr hlo dl_1378))
theorem w_next (F : LF p s m meth c b L xs G a2 cc ss) (kk : LW p l e s m below meth c b G a2 cc ss 18 (lvI b G a2 (i + 6)) [] C D) : LW p l e s m below meth c b G a2 cc ss 1371 (lvI b G a2 i) [] C D := by
  intro H locs ls hP hQ hS hl
  have h6 : Int32.ofInt 6 = nI 6 := by decide +kernel
  refine lv_iinc (lv' := lvI b G a2 (i + 6)) F.1 F.2.1 dl_1371 hl (k := 0) (v := nI i + nI 6) rfl (by rw [h6]) (by decide) ?_ (fun ls hl => lv_goto (tgt := 18) F.1 F.2.1 dl_1374 (by decide) (kk H locs ls hP hQ hS hl))
  rw [nI_add]; rfl
def tgs : List Nat := [204, 247, 280, 313, 356, 379, 402, 435, 498, 521, 544, 557, 570, 603, 626, 659, 692, 725, 748, 791, 824, 857, 890, 913, 936, 959, 982, 1025, 1048, 1091, 1134, 1197, 1220, 1253, 1266, 1279, 1302, 1325, 1348]
def offz : Array Int := #[171, 214, 247, 280, 323, 346, 369, 402, 465, 488, 511, 524, 537, 570, 593, 626, 659, 692, 715, 758, 791, 824, 857, 880, 903, 926, 949, 992, 1015, 1058, 1101, 1164, 1187, 1220, 1233, 1246, 1269, 1292, 1315]
theorem offz_ok : ∀ k, k < 39 → offz[k]? = some ((tgs.getD k 0 : Nat) - (33 : Int)) := by decide +kernel
theorem w_switch {x : Int32} {lv : List (Nat × Value)} (F : LF p s m meth c b L xs G a2 cc ss) (kd : LW p l e s m below meth c b G a2 cc ss 1371 lv [] C D) (kin : ∀ k, k < 39 → LW p l e s m below meth c b G a2 cc ss (tgs.getD k 0) lv [] C D) : LW p l e s m below meth c b G a2 cc ss 33 lv [.int x] C D := by
  intro H locs ls hP hQ hS hl
  by_cases h1 : x.toInt < 0
  · exact lv_tableOut (tgt := 1371) F.1 F.2.1 dl_33 (Or.inl h1) (by decide) (kd H locs ls hP hQ hS hl)
  · by_cases h2 : 38 < x.toInt
    · exact lv_tableOut (tgt := 1371) F.1 F.2.1 dl_33 (Or.inr h2) (by decide) (kd H locs ls hP hQ hS hl)
    · have hk : (x.toInt - 0).toNat < 39 := by omega
      exact lv_tableIn (tgt := tgs.getD (x.toInt - 0).toNat 0) F.1 F.2.1 dl_33 h1 h2 (offz_ok _ hk) (by show (33 : Int) + _ = _; omega) (kin _ hk H locs ls hP hQ hS hl)
theorem w_case (F : LF p s m meth c b L xs G a2 cc ss) (hi : i + 6 ≤ L) (hR : Rel C D) (kk : ∀ C2 D2, Rel C2 D2 → LW p l e s m below meth c b G a2 cc ss 1371 (lvI b G a2 i) [] C2 D2) : ∀ k, k < 39 → LW p l e s m below meth c b G a2 cc ss (tgs.getD k 0) (lvI b G a2 i) [] C D := by
  intro k hk
  rcases (show k = 0 ∨ k = 1 ∨ k = 2 ∨ k = 3 ∨ k = 4 ∨ k = 5 ∨ k = 6 ∨ k = 7 ∨ k = 8 ∨ k = 9 ∨ k = 10 ∨ k = 11 ∨ k = 12 ∨ k = 13 ∨ k = 14 ∨ k = 15 ∨ k = 16 ∨ k = 17 ∨ k = 18 ∨ k = 19 ∨ k = 20 ∨ k = 21 ∨ k = 22 ∨ k = 23 ∨ k = 24 ∨ k = 25 ∨ k = 26 ∨ k = 27 ∨ k = 28 ∨ k = 29 ∨ k = 30 ∨ k = 31 ∨ k = 32 ∨ k = 33 ∨ k = 34 ∨ k = 35 ∨ k = 36 ∨ k = 37 ∨ k = 38 by omega) with rfl | rfl | rfl | rfl | rfl | rfl | rfl | rfl | rfl | rfl | rfl | rfl | rfl | rfl | rfl | rfl | rfl | rfl | rfl | rfl | rfl | rfl | rfl | rfl | rfl | rfl | rfl | rfl | rfl | rfl | rfl | rfl | rfl | rfl | rfl | rfl | rfl | rfl | rfl
  · exact lc_0 F hi hR kk
  · exact lc_1 F hi hR kk
  · exact lc_2 F hi hR kk
  · exact lc_3 F hi hR kk
  · exact lc_4 F hi hR kk
  · exact lc_5 F hi hR kk
  · exact lc_6 F hi hR kk
  · exact lc_7 F hi hR kk
  · exact lc_8 F hi hR kk
  · exact lc_9 F hi hR kk
  · exact lc_10 F hi hR kk
  · exact lc_11 F hi hR kk
  · exact lc_12 F hi hR kk
  · exact lc_13 F hi hR kk
  · exact lc_14 F hi hR kk
  · exact lc_15 F hi hR kk
  · exact lc_16 F hi hR kk
  · exact lc_17 F hi hR kk
  · exact lc_18 F hi hR kk
  · exact lc_19 F hi hR kk
  · exact lc_20 F hi hR kk
  · exact lc_21 F hi hR kk
  · exact lc_22 F hi hR kk
  · exact lc_23 F hi hR kk
  · exact lc_24 F hi hR kk
  · exact lc_25 F hi hR kk
  · exact lc_26 F hi hR kk
  · exact lc_27 F hi hR kk
  · exact lc_28 F hi hR kk
  · exact lc_29 F hi hR kk
  · exact lc_30 F hi hR kk
  · exact lc_31 F hi hR kk
  · exact lc_32 F hi hR kk
  · exact lc_33 F hi hR kk
  · exact lc_34 F hi hR kk
  · exact lc_35 F hi hR kk
  · exact lc_36 F hi hR kk
  · exact lc_37 F hi hR kk
  · exact lc_38 F hi hR kk
theorem w_loop (F : LF p s m meth c b L xs G a2 cc ss) : ∀ (n i : Nat) (C D : Mm), i ≤ L + 6 → L + 6 ≤ i + n → Rel C D → LW p l e s m below meth c b G a2 cc ss 18 (lvI b G a2 i) [] C D := by
  obtain ⟨hx, hb, hr, hml, hown, hts, hX, hbl, hlo, hK, hE1, hE2, hI1, hI2, hR1, hR2, hc1, hs1, hL⟩ := id F
  have head : ∀ (i : Nat) (C D : Mm), i ≤ L + 6 → (¬ L < i + 6 → LW p l e s m below meth c b G a2 cc ss 27 (lvI b G a2 i) [] C D) → LW p l e s m below meth c b G a2 cc ss 18 (lvI b G a2 i) [] C D := by
    intro i C D hi kk H locs ls hP hQ hS hl
    refine lv_iload_n hx hb dl_18 rfl (lv_at hl 0 rfl) (lv_aload_n hx hb dl_19 rfl (lv_at hl 3 rfl) (va_slen hx hb hX hbl (Nat.not_le.mpr hbl) hS dl_20 (lv_bipush (v := 6) hx hb dl_21 (by decide +kernel) (lv_isub hx hb dl_23 (lv_icmp_gt (tgt := 1377) hx hb dl_24 (by decide) (fun _ => w_end F H locs ls hP hQ hS hl) (fun h => kk ?_ H locs ls hP hQ hS hl))))))
    intro h2
    exact h ((lw_cmp hL (by omega)).mpr h2)
  intro n
  induction n with
  | zero =>
    intro i C D hi hn hR
    exact head i C D hi (fun h => absurd (show L < i + 6 by omega) h)
  | succ n ih =>
    intro i C D hi hn hR
    refine head i C D hi (fun h => ?_)
    intro H locs ls hP hQ hS hl
    refine lv_aload_n hx hb dl_27 rfl (lv_at hl 3 rfl) (lv_iload_n hx hb dl_28 rfl (lv_at hl 0 rfl) (va_sld hx hb hX hbl (Nat.not_le.mpr hbl) hS (inb_vp (inb_nI (by omega) (by omega))) dl_29 (lv_bipush (v := 63) hx hb dl_30 (by decide +kernel) (lv_iand hx hb dl_32 ?_))))
    have hk : ∀ C2 D2, Rel C2 D2 → LW p l e s m below meth c b G a2 cc ss 1371 (lvI b G a2 i) [] C2 D2 := fun C2 D2 h2 => w_next F (ih (i + 6) C2 D2 (by omega) (by omega) h2)
    exact w_switch F (hk C D hR) (w_case F (by omega) hR hk) H locs ls hP hQ hS hl
end LOOP
