/-! THE START: what the premises give; both objects made; the law from its entry. -/
theorem sw_60 : gw (.initialized RX9) := ⟨List.mem_of_getElem? (i := 60) (by decide +kernel), rfl⟩
theorem sw_69 : gw (.initialized RX8) := ⟨List.mem_of_getElem? (i := 69) (by decide +kernel), rfl⟩
theorem sw_71 : gw (.initialized RX10) := ⟨List.mem_of_getElem? (i := 71) (by decide +kernel), rfl⟩
theorem sw_72 : gw (.initialized RJ0) := ⟨List.mem_of_getElem? (i := 72) (by decide +kernel), rfl⟩
theorem sw_78 : gw (.classLink RL 7 RX9) := ⟨List.mem_of_getElem? (i := 78) (by decide +kernel), rfl⟩
theorem sw_79 : gw (.instantiable RX9 9) := ⟨List.mem_of_getElem? (i := 79) (by decide +kernel), rfl⟩
theorem sw_80 : gw (.methodLink RL 9 yX9_init) := ⟨List.mem_of_getElem? (i := 80) (by decide +kernel), rfl⟩
theorem sw_81 : gw (.instanceMethod yX9_init) := ⟨List.mem_of_getElem? (i := 81) (by decide +kernel), rfl⟩
theorem sw_82 : gw (.code yX9_init cX9_init 2 none) := ⟨List.mem_of_getElem? (i := 82) (by decide +kernel), rfl⟩
theorem sw_87 : gw (.instantiable RX7 15) := ⟨List.mem_of_getElem? (i := 87) (by decide +kernel), rfl⟩
theorem sw_97 : gw (.instantiable RX1 3) := ⟨List.mem_of_getElem? (i := 97) (by decide +kernel), rfl⟩
theorem sw_103 : gw (.instantiable RX5 2) := ⟨List.mem_of_getElem? (i := 103) (by decide +kernel), rfl⟩
theorem sw_125 : gw (.arrayClass .int) := ⟨List.mem_of_getElem? (i := 125) (by decide +kernel), rfl⟩
theorem sw_139 : gw (.instantiable RX3 7) := ⟨List.mem_of_getElem? (i := 139) (by decide +kernel), rfl⟩
theorem sw_241 : gw (.instantiable RX0 4) := ⟨List.mem_of_getElem? (i := 241) (by decide +kernel), rfl⟩
theorem sw_264 : gw (.instantiable RX6 6) := ⟨List.mem_of_getElem? (i := 264) (by decide +kernel), rfl⟩
theorem sw_293 : gw (.instantiable RX2 3) := ⟨List.mem_of_getElem? (i := 293) (by decide +kernel), rfl⟩
theorem sw_312 : gw (.instantiable RX8 5) := ⟨List.mem_of_getElem? (i := 312) (by decide +kernel), rfl⟩
theorem sw_339 : gw (.instantiable RX4 2) := ⟨List.mem_of_getElem? (i := 339) (by decide +kernel), rfl⟩
theorem sw_980 : gw (.classLink RL 10 RX10) := ⟨List.mem_of_getElem? (i := 980) (by decide +kernel), rfl⟩
theorem sw_981 : gw (.instantiable RX10 26) := ⟨List.mem_of_getElem? (i := 981) (by decide +kernel), rfl⟩
theorem sw_982 : gw (.methodLink RL 12 yX10_init) := ⟨List.mem_of_getElem? (i := 982) (by decide +kernel), rfl⟩
theorem sw_983 : gw (.instanceMethod yX10_init) := ⟨List.mem_of_getElem? (i := 983) (by decide +kernel), rfl⟩
theorem sw_984 : gw (.code yX10_init cX10_init 2 none) := ⟨List.mem_of_getElem? (i := 984) (by decide +kernel), rfl⟩
theorem okI_9 : okI yX9_init cX9_init 2 0 := ⟨sw_82, sw_60, sw_81, rfl, by decide +kernel, rfl⟩
theorem okI_10 : okI yX10_init cX10_init 2 0 := ⟨sw_984, sw_71, sw_983, rfl, by decide +kernel, rfl⟩
def FL : List Cond := flatC (Jvm.Cond.and given_1 narrow_1)
abbrev tA : Term := .static "IceType" "ABOVE" "[I"
abbrev tB : Term := .static "IceType$Voices" "BODIES" "[I"
abbrev tS (i : Nat) : Term := .string "IceType" (150 + 2 * i)
theorem fl_A0 : FL[5]? = some (.arrayOf tA .int) ∧ FL[6]? = some (.eq (.length tA) (.int (Int32.ofNat 7))) := by decide +kernel
theorem fl_A : ∀ j, j < 7 → FL[7 + j]? = some (.eq (.elem tA (.int (Int32.ofNat j))) (.int (tabA j))) := by decide +kernel
theorem fl_C : FL[14]? = some (.eq (.static "java/lang/String" "COMPACT_STRINGS" "Z") (.int 1)) := by decide +kernel
theorem fl_B0 : FL[20]? = some (.arrayOf tB .int) ∧ FL[21]? = some (.eq (.length tB) (.int (Int32.ofNat 28))) := by decide +kernel
theorem fl_B : ∀ j, j < 28 → FL[22 + j]? = some (.eq (.elem tB (.int (Int32.ofNat j))) (.int (tabB j))) := by decide +kernel
theorem fl_S : ∀ i, i < 2 → FL[83 + 8 * i]? = some (.exactly (tS i) "java/lang/String") ∧ FL[84 + 8 * i]? = some (.eq (.field (tS i) "java/lang/String" "coder" "B") (.int 0)) ∧ FL[85 + 8 * i]? = some (.arrayOf (.field (tS i) "java/lang/String" "value" "[B") .byte) ∧ FL[86 + 8 * i]? = some (.eq (.length (.field (tS i) "java/lang/String" "value" "[B")) (.int (Int32.ofNat (sLen.getD i 0)))) := by decide +kernel
theorem fl_Sb : ∀ i, i < 2 → ∀ j, j < sLen.getD i 0 → FL[87 + 8 * i + j]? = some (.eq (.elem (.field (tS i) "java/lang/String" "value" "[B") (.int (Int32.ofNat j))) (.int ((sByt.getD i []).getD j 0))) := by decide +kernel
theorem fl_ne : FL[98]? = some (.not (.eq (tS 0) (tS 1))) := by decide +kernel
theorem vk_S_cg {N : Nat} {len : List Nat} {byt : List (List Int32)} {k1 v1 k2 v2 : Nat → Nat} {A : Nat → Prop} {U : State} {H : Heap} (hk : ∀ i, i < N → k1 i = k2 i) (hv : ∀ i, i < N → v1 i = v2 i) (h : vk_S N len byt k1 v1 A U H) : vk_S N len byt k2 v2 A U H := by
  refine ⟨fun i hi => ?_, fun i j hi hj e => ?_⟩
  · rw [← hk i hi, ← hv i hi]; exact h.1 i hi
  · rw [← hk i hi, ← hk j hj] at e; exact h.2 i j hi hj e
/-- what the start gives of classes, array classes, statics, texts -/
theorem env {s : State} {args : Array Value} (hts0 : ∀ w ∈ lw_tbl, w.before args s = true) (hgv : (Jvm.Cond.and given_1 narrow_1).before args s = true) : ∃ G : Gx, va_K G.1 cls (tys G) s ∧ NV s ∧ ∀ (lay : List Sh) (ad : Nat → Nat), (∀ q, Rg lay (gA G ad) q → s.heap.size ≤ q) → Ev lay (gA G ad) s s.heap := by
  have hts : ∀ w ∈ tbG, w.before args s = true := fun w hw => hts0 w (List.mem_filter.mp hw).1
  have hs : ∀ c ∈ FL, c.before args s = true := flat_of_before _ hgv
  have hNV : NV s := ⟨fun w hw => va_Nw.of (nw_tab hw) (hts0 w hw.1), va_AO.of (hts0 _ (List.mem_of_getElem? (i := 93) (by decide +kernel))), va_AO.of (hts0 _ (List.mem_of_getElem? (i := 95) (by decide +kernel))), va_AO.of (hts0 _ (List.mem_of_getElem? (i := 338) (by decide +kernel)))⟩
  have hc : ∀ k : Nat, ∃ x : ClassId × (Nat → Nat), ∀ q : vw_C, cls[k]? = some q → u_Kn s q.1 q.2.1 q.2.2 x.1 x.2 := by
    intro k
    by_cases hk : k < 11
    · rcases (show k = 0 ∨ k = 1 ∨ k = 2 ∨ k = 3 ∨ k = 4 ∨ k = 5 ∨ k = 6 ∨ k = 7 ∨ k = 8 ∨ k = 9 ∨ k = 10 by omega) with rfl | rfl | rfl | rfl | rfl | rfl | rfl | rfl | rfl | rfl | rfl
      · obtain ⟨x, y, h⟩ := u_known (C := RX0) (T := TX0) (N := 4) (n := 4) hts inG0 (hts _ (gw_in sw_241))
        exact ⟨(x, y), fun q hq => by cases hq; exact h⟩
      · obtain ⟨x, y, h⟩ := u_known (C := RX1) (T := TX1) (N := 3) (n := 3) hts inG1 (hts _ (gw_in sw_97))
        exact ⟨(x, y), fun q hq => by cases hq; exact h⟩
      · obtain ⟨x, y, h⟩ := u_known (C := RX2) (T := TX2) (N := 3) (n := 3) hts inG2 (hts _ (gw_in sw_293))
        exact ⟨(x, y), fun q hq => by cases hq; exact h⟩
      · obtain ⟨x, y, h⟩ := u_known (C := RX3) (T := TX3) (N := 7) (n := 7) hts inG3 (hts _ (gw_in sw_139))
        exact ⟨(x, y), fun q hq => by cases hq; exact h⟩
      · obtain ⟨x, y, h⟩ := u_known (C := RX4) (T := TX4) (N := 2) (n := 2) hts inG4 (hts _ (gw_in sw_339))
        exact ⟨(x, y), fun q hq => by cases hq; exact h⟩
      · obtain ⟨x, y, h⟩ := u_known (C := RX5) (T := TX5) (N := 2) (n := 2) hts inG5 (hts _ (gw_in sw_103))
        exact ⟨(x, y), fun q hq => by cases hq; exact h⟩
      · obtain ⟨x, y, h⟩ := u_known (C := RX6) (T := TX6) (N := 6) (n := 6) hts inG6 (hts _ (gw_in sw_264))
        exact ⟨(x, y), fun q hq => by cases hq; exact h⟩
      · obtain ⟨x, y, h⟩ := u_known (C := RX7) (T := TX7) (N := 15) (n := 15) hts inG7 (hts _ (gw_in sw_87))
        exact ⟨(x, y), fun q hq => by cases hq; exact h⟩
      · obtain ⟨x, y, h⟩ := u_known (C := RX8) (T := TX8) (N := 5) (n := 5) hts inG8 (hts _ (gw_in sw_312))
        exact ⟨(x, y), fun q hq => by cases hq; exact h⟩
      · obtain ⟨x, y, h⟩ := u_known (C := RX9) (T := TX9) (N := 9) (n := 9) hts inG9 (hts _ (gw_in sw_79))
        exact ⟨(x, y), fun q hq => by cases hq; exact h⟩
      · obtain ⟨x, y, h⟩ := u_known (C := RX10) (T := TX10) (N := 26) (n := 26) hts inG10 (hts _ (gw_in sw_981))
        exact ⟨(x, y), fun q hq => by cases hq; exact h⟩
    · exact ⟨(default, fun _ => 0), fun q hq => by rw [List.getElem?_eq_none (show cls.length ≤ k by show 11 ≤ k; omega)] at hq; cases hq⟩
  obtain ⟨f, hf⟩ := Classical.axiomOfChoice hc
  obtain ⟨cI, kI, compI, i1, i2, i3⟩ := Cond.arrayClass_spec (hts _ (gw_in sw_125))
  obtain ⟨comp1, cA1, k1, a1, a2, a3, a4, a5⟩ := Cond.arrayOver_spec hNV.2.1
  obtain ⟨comp2, cA2, k2, b1, b2, b3, b4, b5⟩ := Cond.arrayOver_spec hNV.2.2.1
  obtain ⟨comp3, cA3, k3, c1, c2, c3, c4, c5⟩ := Cond.arrayOver_spec hNV.2.2.2
  have hA : ∀ a : Nat, a < s.heap.size → ¬ (fun q : Nat => s.heap.size ≤ q) a := fun a h => Nat.not_le.mpr h
  obtain ⟨t0, hv0, hT0⟩ := va_Tof (tm := tA) (ty := .int) (N := 7) (f := fun j => .int (tabA j)) (A := fun q => s.heap.size ≤ q) (by decide) (hs _ (List.mem_of_getElem? fl_A0.1)) (va_eqt (hs _ (List.mem_of_getElem? fl_A0.2))) (fun j hj => va_eqt (hs _ (List.mem_of_getElem? (fl_A j hj)))) hA
  obtain ⟨t1, hv1, hT1⟩ := va_Tof (tm := tB) (ty := .int) (N := 28) (f := fun j => .int (tabB j)) (A := fun q => s.heap.size ≤ q) (by decide) (hs _ (List.mem_of_getElem? fl_B0.1)) (va_eqt (hs _ (List.mem_of_getElem? fl_B0.2))) (fun j hj => va_eqt (hs _ (List.mem_of_getElem? (fl_B j hj)))) hA
  have hZ0 : va_Z "IceType" "ABOVE" "[I" (.ref t0) (fun q => s.heap.size ≤ q) s s.heap := va_Zof (hts0 _ (List.mem_of_getElem? (i := 476) (by decide +kernel))) (hts _ (gw_in sw_60)) hv0 hA
  have hZ1 : va_Z "IceType$Voices" "BODIES" "[I" (.ref t1) (fun q => s.heap.size ≤ q) s s.heap := va_Zof (hts0 _ (List.mem_of_getElem? (i := 874) (by decide +kernel))) (hts _ (gw_in sw_69)) hv1 hA
  have hZ2 : va_Z "java/lang/String" "COMPACT_STRINGS" "Z" (.int 1) (fun q => s.heap.size ≤ q) s s.heap := va_Zof (hts0 _ (List.mem_of_getElem? (i := 574) (by decide +kernel))) (hts _ (gw_in sw_72)) (va_eqi (hs _ (List.mem_of_getElem? fl_C))) hA
  obtain ⟨adK, adV, hS, hSe⟩ := vk_Sof (args := args) (s := s) (N := 2) (tm := tS) (len := sLen) (byt := sByt) (A := fun q => s.heap.size ≤ q) (by decide) (fun i hi => hs _ (List.mem_of_getElem? (fl_S i hi).1)) (fun i hi => hs _ (List.mem_of_getElem? (fl_S i hi).2.1)) (fun i hi => hs _ (List.mem_of_getElem? (fl_S i hi).2.2.1)) (fun i hi => hs _ (List.mem_of_getElem? (fl_S i hi).2.2.2)) (fun i hi j hj => hs _ (List.mem_of_getElem? (fl_Sb i hi j hj))) (fun i j hi hj hij => by
    have hn := hs _ (List.mem_of_getElem? fl_ne)
    rcases (show (i = 0 ∧ j = 1) ∨ (i = 1 ∧ j = 0) by omega) with ⟨rfl, rfl⟩ | ⟨rfl, rfl⟩
    · exact Or.inl hn
    · exact Or.inr hn) hA
  let ext : Nat → Nat := fun k => if k < 1 then t0 else if k < 2 then t1 else if k < 4 then adK (k - 2) else adV (k - 4)
  let G : Gx := ((fun k => (f k).1, fun k => (f k).2), (fun t => if t < 1 then cI else if t < 2 then cA1 else if t < 3 then cA2 else cA3), (fun k => k), ext)
  refine ⟨G, ⟨fun k q hq => hf k q hq, fun k q hq => ?_⟩, hNV, fun lay ad hR => ?_⟩
  · match k, hq with
    | 0, hq => cases hq; exact ⟨fun n z => ⟨fun k h => (by cases h), kI, i2, compI, i3⟩, i1⟩
    | 1, hq => cases hq; exact ⟨fun n z => ⟨fun k h => (by cases h), k1, a3, comp1, a4⟩, k1, comp1, a3, a4, a1, a5⟩
    | 2, hq => cases hq; exact ⟨fun n z => ⟨fun k h => (by cases h), k2, b3, comp2, b4⟩, k2, comp2, b3, b4, b1, b5⟩
    | 3, hq => cases hq; exact ⟨fun n z => ⟨fun k h => (by cases h), k3, c3, comp3, c4⟩, k3, comp3, c3, c4, c1, c5⟩
    | k + 4, hq => simp at hq
  · refine ⟨hNV.1, va_Z.narrow hZ0 hR, va_T.narrow hT0 hR, va_Z.narrow hZ1 hR, va_T.narrow hT1 hR, va_Z.narrow hZ2 hR, ?_, ?_, vk_S_cg (fun i hi => ?_) (fun i hi => ?_) (vk_S.narrow hS hR)⟩
    · exact vk_R.of (hts0 _ (List.mem_of_getElem? (i := 525) (by decide +kernel))) (hSe 0 (by omega))
    · exact vk_R.of (hts0 _ (List.mem_of_getElem? (i := 526) (by decide +kernel))) (hSe 1 (by omega))
    · show adK i = if 2 + i < 1 then t0 else if 2 + i < 2 then t1 else if 2 + i < 4 then adK (2 + i - 2) else adV (2 + i - 4)
      rw [if_neg (by omega), if_neg (by omega), if_pos (by omega), show 2 + i - 2 = i by omega]
    · show adV i = if 4 + i < 1 then t0 else if 4 + i < 2 then t1 else if 4 + i < 4 then adK (4 + i - 2) else adV (4 + i - 4)
      rw [if_neg (by omega), if_neg (by omega), if_neg (by omega), show 4 + i - 4 = i by omega]
theorem D_Ij {lay : List Sh} {G : Gx} {M : Mm} {A : Nat → Prop} (h : va_D A (WS lay G M)) : Ij lay G := fun i j hi hj e => h.1 i j _ _ (WS_get (List.getElem?_eq_getElem hi)) (WS_get (List.getElem?_eq_getElem hj)) e
theorem D_Rg {lay : List Sh} {G : Gx} {M : Mm} {A : Nat → Prop} (h : va_D A (WS lay G M)) {q : Nat} (hq : Rg lay G q) : A q := by
  obtain ⟨k, hk, rfl⟩ := hq
  exact h.2 k _ (WS_get (List.getElem?_eq_getElem hk))
theorem D_left {A : Nat → Prop} {w1 w2 : va_W} (h : va_D A (w1 ++ w2)) : va_D A w1 := by
  rw [D_iff] at h ⊢
  rw [List.map_append] at h
  exact ⟨(List.nodup_append.mp h.1).1, fun x hx => h.2 x (List.mem_append.mpr (Or.inl hx))⟩
theorem D_right {A : Nat → Prop} {w1 w2 : va_W} (h : va_D A (w1 ++ w2)) : va_D A w2 := by
  rw [D_iff] at h ⊢
  rw [List.map_append] at h
  exact ⟨(List.nodup_append.mp h.1).2.1, fun x hx => h.2 x (List.mem_append.mpr (Or.inr hx))⟩
theorem D_apart {lay1 lay2 : List Sh} {G1 G2 : Gx} {M1 M2 : Mm} {A : Nat → Prop} (h : va_D A (WS lay1 G1 M1 ++ WS lay2 G2 M2)) {q : Nat} (h1 : Rg lay1 G1 q) (h2 : Rg lay2 G2 q) : False := by
  obtain ⟨i, hi, rfl⟩ := h1
  obtain ⟨j, hj, e⟩ := h2
  have := h.1 i (lay1.length + j) _ _ (by rw [List.getElem?_append_left (by rw [WS_len]; exact hi)]; exact WS_get (List.getElem?_eq_getElem hi)) (by rw [List.getElem?_append_right (by rw [WS_len]; omega), WS_len, show lay1.length + j - lay1.length = j by omega]; exact WS_get (List.getElem?_eq_getElem hj)) e
  omega
set_option maxHeartbeats 4000000 in
/-- from the entry, for every script of at most 384 ints, the law comes to its end with true -/
theorem whole_start {p : Program} {e : Env} {s : State} {m : MethodId} {below : List Frame} {meth : Method} {c : Code} (l : Launch) (hflags : l.flags = flags0) {b L : Nat} {xs : Nat → Int32} (hL : L ≤ 384) (C0 : lw_At p s m meth c b L xs) : W p l e room_1 s m #[Value.ref b] below meth c s.heap [] 0 0 (lw_Z below #[Value.ref b] s) (entryFrame m ([Value.ref b] : List Value).toArray 4) := by
  obtain ⟨hx, hb, hr, hml, hown, hts0, hX, hbl, hlocks, hgv⟩ := id C0
  have hown : s.vm.findClass RL = some m.cls := hown
  have hts : ∀ w ∈ tbG, w.before #[Value.ref b] s = true := fun w hw => hts0 w (List.mem_filter.mp hw).1
  obtain ⟨G, hK, hNV, hEv⟩ := env hts0 hgv
  have hA : ∀ q : Nat, s.heap.size ≤ q → (fun q : Nat => s.heap.size ≤ q) q := fun _ h => h
  have hS : va_S (fun q : Nat => s.heap.size ≤ q) s.heap s.heap [] := va_S.rf
  have hP : va_P G.1 cls [] s.heap := fun k q h => by simp at h
  have hD : va_D (fun q : Nat => s.heap.size ≤ q) [] := ⟨fun i j p q h => by simp at h, fun k q h => by simp at h⟩
  have hl := lv_entry ([.ref b]) (n := 4) (Nat.le_of_ble_eq_true rfl)
  rw [lg_entry_eq]
  generalize (lg_sl ([.ref b]) ++ List.replicate (4 - (lg_sl ([.ref b])).length) Slot.unset).toArray = ls at hl ⊢
  have hl : lv_has ls 4 [(0, .ref b)] := hl
  refine va_new (D := G.1) (cl := cls) (ci := 9) (fs := dX9) (C := RX9) (T := TX9) (N := 9) hx hb hts inG9 tyX9 tyX9_ok hown (hts _ (gw_in sw_78)) (hts _ (gw_in sw_79)) (hts _ (gw_in sw_60)) hK hP hD hS hA rfl dX9_ok (Nat.le_of_ble_eq_true rfl) (Nat.le_of_ble_eq_true rfl) dl_0 (fun q1 H hP hD hS => ?_)
  refine lv_dup hx hb dl_3 rfl ?_
  have hP1 : va_P G.1 cls (([] : va_W) ++ one q1 9 dX9) H := hP
  have hD1 : va_D (fun q : Nat => s.heap.size ≤ q) (([] : va_W) ++ one q1 9 dX9) := hD
  have hFc := va_free (wc := one q1 9 dX9) hD1 hS hA [0] rfl
  refine va_callv (va_runI (As := []) (rest := [.ref q1]) ⟨hx, hb, hml, hown, hts⟩ (ct_X9 l G q1 H.size) (cwI 0 hts (wds_good okI_9.1) rfl rfl rfl (hts _ (gw_in okI_9.2.1)) (hts _ (gw_in sw_80)) (hts _ (gw_in okI_9.2.2.1)) rfl okI_9.2.2.2.2.1 ⟨Nat.le_of_ble_eq_true rfl, Nat.le_of_ble_eq_true rfl⟩) ⟨kP_blind, fun U hU hW => ⟨rfl, by rw [hU], by rw [hU]; exact hP1, va_K.moved hW.alike hK, NV_warm hW hNV⟩⟩ rfl rfl hl.1 rfl (lv_room (Nat.le_of_ble_eq_true rfl)) dl_4 ⟨Nat.le_of_ble_eq_true rfl, Nat.le_of_ble_eq_true rfl⟩) hS (fun q _ h => hFc q h) hFc (fun ad1 t H1 locs1 ht hvm hw1 hB hz1 hk1 hS => ?_)
  obtain ⟨hPa, hDa⟩ := hB
  rw [ht] at hPa
  obtain ⟨hPx, hDx⟩ := join1 hP1 hD1 hk1 hFc hPa hDa
  have hw1 : ad1 0 = q1 := hw1
  subst hw1
  refine lv_astore_n (lv' := [(1, .ref (ad1 0)), (0, .ref b)]) hx hb dl_7 rfl hl (by decide) rfl (fun ls hl => ?_)
  rw [List.nil_append] at hPx hDx
  refine va_new (D := G.1) (cl := cls) (ci := 10) (fs := dX10) (C := RX10) (T := TX10) (N := 26) hx hb hts inG10 tyX10 tyX10_ok hown (hts _ (gw_in sw_980)) (hts _ (gw_in sw_981)) (hts _ (gw_in sw_71)) hK hPx hDx hS hA rfl dX10_ok (Nat.le_of_ble_eq_true rfl) (Nat.le_of_ble_eq_true rfl) dl_8 (fun q2 H2 hP2 hD2 hS => ?_)
  refine lv_dup hx hb dl_11 rfl ?_
  have hlen : (wIce G ad1).length = 174 := by rw [WS_len]; exact layC_len
  have hFc2 := va_free (wc := one q2 10 dX10) hD2 hS hA [(wIce G ad1).length] (by simp)
  have hPc2 : va_P G.1 cls (one q2 10 dX10) H2 := hP2.sub [(wIce G ad1).length] (by simp)
  refine va_callv (va_runI (As := []) (rest := [.ref q2]) ⟨hx, hb, hml, hown, hts⟩ (ct_X10 l G q2 H2.size) (cwI 0 hts (wds_good okI_10.1) rfl rfl rfl (hts _ (gw_in okI_10.2.1)) (hts _ (gw_in sw_982)) (hts _ (gw_in okI_10.2.2.1)) rfl okI_10.2.2.2.2.1 ⟨Nat.le_of_ble_eq_true rfl, Nat.le_of_ble_eq_true rfl⟩) ⟨kP_blind, fun U hU hW => ⟨rfl, by rw [hU], by rw [hU]; exact hPc2, va_K.moved hW.alike hK, NV_warm hW hNV⟩⟩ rfl rfl hl.1 rfl (lv_room (Nat.le_of_ble_eq_true rfl)) dl_12 ⟨Nat.le_of_ble_eq_true rfl, Nat.le_of_ble_eq_true rfl⟩) hS (fun q _ h => hFc2 q h) hFc2 (fun ad2 t2 H3 locs3 ht2 hvm2 hw2 hB2 hz2 hk2 hS => ?_)
  obtain ⟨hPa2, hDa2⟩ := hB2
  rw [ht2] at hPa2
  obtain ⟨hP3, hD3⟩ := join1 hP2 hD2 hk2 hFc2 hPa2 hDa2
  have hw2 : ad2 0 = q2 := hw2
  subst hw2
  refine lv_astore_n (lv' := [(2, .ref (ad2 0)), (1, .ref (ad1 0)), (0, .ref b)]) hx hb dl_15 rfl hl (by decide) rfl (fun ls hl => ?_)
  refine lv_iconst (v := 0) hx hb dl_16 (by decide +kernel) ?_
  refine lv_istore_n (lv' := [(3, .int 0), (2, .ref (ad2 0)), (1, .ref (ad1 0)), (0, .ref b)]) hx hb dl_17 rfl hl (by decide) rfl (fun ls hl => ?_)
  obtain ⟨hPC, hPM⟩ := P_app.mp hP3
  have hD3 : va_D (fun q : Nat => s.heap.size ≤ q) (WS layC (gA G (adI ad1)) MC0 ++ WS layM (gA G ad2) MD0) := hD3
  have hR1 : ∀ q, Rg layC (gA G (adI ad1)) q → s.heap.size ≤ q := fun q hq => D_Rg (D_left hD3) hq
  have hR2 : ∀ q, Rg layM (gA G ad2) q → s.heap.size ≤ q := fun q hq => D_Rg (D_right hD3) hq
  have F : LF p s m meth c b L xs (gA G (adI ad1)) ad2 (0 + 1 + 173 + 1 + 16) (0 + 9 + 1715 + 26 + 3020) := ⟨hx, hb, hr, hml, hown, hts, hX, hbl, hlocks, hK, hEv layC (adI ad1) hR1, hEv layM ad2 hR2, D_Ij (D_left hD3), D_Ij (D_right hD3), fun q hq => ⟨hR1 q hq, fun hq2 => D_apart hD3 hq hq2⟩, hR2, Nat.le_of_ble_eq_true rfl, Nat.le_of_ble_eq_true rfl, hL⟩
  exact w_loop (l := l) (e := e) (below := below) F (L + 6) 0 MC0 MD0 (by omega) (by omega) st_Rel H3 locs3 ls hPC hPM hS hl
