/-! THE LAW: what it stands on; rows. -/
def R_law : String := "IceTypeLaw"
def lw_P (b : Addr) (xs : List Int32) (args : Array Value) (s : State) : Prop := args = #[.ref b] ∧ s.IntsAt b xs ∧ xs.length ≤ 384 ∧ (Jvm.Cond.and given_1 narrow_1).before args s = true
def lw_Q (_ : Array Value) (s : State) (o : Outcome) (t : State) : Prop := o = .returned (some (.int 1)) ∧ Framed s o t [] 600000 7302250
def lw_Z (below : List Frame) (a : Array Value) (s : State) : State → Prop := fun t => ∃ o, t.status = .running ∧ Ended t below o ∧ lw_Q a s o t
/-- the law's own end, with 1 on the stack, nothing written that was there before, its room as the claim has it -/
theorem lw_ret {p : Program} {l : Launch} {e : Env} {s : State} {m : MethodId} {below : List Frame} {meth : Method} {c : Code} {b : Nat} (hx : p.tables.exec = Jvm.exec) (hb : c.code = code) (hr : meth.sig.returnType = ret) (hlocks : meth.locks = false) {pc : Nat} {H : Heap} {ls : Array Slot} (hdg : decode code pc = .ok (.ireturn, 1)) : W p l e room_1 s m #[Value.ref b] below meth c H [] 600000 7302250 (lw_Z below #[Value.ref b] s) (F0 m pc ls [.int 1]) := by
  intro T hT X
  obtain ⟨fs, hret, hrun, hended, hW, hframe⟩ := X.leave (v := some (.int 1)) (hlocks := hlocks) (fun h => by rw [hr] at h; cases h)
  have hmeth' : T.vm.method? m = some meth := X.method'
  refine ⟨T.setFrames fs, ?_, .returned (some (.int 1)), hrun, hended, rfl, ⟨_, rfl⟩, hW, hframe⟩
  jvm_step X.here [X.here.top, hx, hb, hdg, hmeth', hr, ret, narrow_b1]
  (try refine ⟨rfl, ?_⟩); (try refine ⟨rfl, ?_⟩)
  first | (intro acts; rw [hret _ acts rfl rfl rfl]) | rw [hret _ _ rfl rfl rfl]
  exact Steps.refl _
/-- what holds at the law's entry: the machine, the code, the tables' words (any of lw_tbl by 'hts w (by decide +kernel)'), the script of L ints xs at the cell b, what the Statement gives of the start (any of its parts by flat_of_before) -/
def lw_At (p : Program) (s : State) (m : MethodId) (meth : Method) (c : Code) (b L : Nat) (xs : Nat → Int32) : Prop :=
  p.tables.exec = Jvm.exec ∧ c.code = code ∧ meth.sig.returnType = ret ∧ c.maxLocals = 4 ∧ s.vm.findClass R_law = some m.cls ∧ (∀ w ∈ lw_tbl, w.before #[Value.ref b] s = true) ∧ va_X b L xs s s.heap ∧ b < s.heap.size ∧ meth.locks = false ∧ (Jvm.Cond.and given_1 narrow_1).before #[Value.ref b] s = true

/-- what stays the same in the law's run -/
def LF (p : Program) (s : State) (m : MethodId) (meth : Method) (c : Code) (b L : Nat) (xs : Nat → Int32) (G : Gx) (a2 : Nat → Nat) (cc ss : Nat) : Prop :=
  p.tables.exec = Jvm.exec ∧ c.code = code ∧ meth.sig.returnType = ret ∧ c.maxLocals = 4 ∧ s.vm.findClass RL = some m.cls ∧ (∀ w ∈ tbG, w.before #[Value.ref b] s = true) ∧ va_X b L xs s s.heap ∧ b < s.heap.size ∧ meth.locks = false ∧ va_K G.1 cls (tys G) s ∧ Ev layC G s s.heap ∧ Ev layM (gA G a2) s s.heap ∧ Ij layC G ∧ Ij layM (gA G a2) ∧ (∀ q, Rg layC G q → s.heap.size ≤ q ∧ ¬ Rg layM (gA G a2) q) ∧ (∀ q, Rg layM (gA G a2) q → s.heap.size ≤ q) ∧ cc ≤ 600000 ∧ ss ≤ 7302250 ∧ L ≤ 384
def LW (p : Program) (l : Launch) (e : Env) (s : State) (m : MethodId) (below : List Frame) (meth : Method) (c : Code) (b : Nat) (G : Gx) (a2 : Nat → Nat) (cc ss : Nat) (pc : Nat) (lv : List (Nat × Value)) (st : List Value) (C D : Mm) : Prop :=
  ∀ (H : Heap) (locs : List Loc) (ls : Array Slot), va_P G.1 cls (WS layC G C) H → va_P G.1 cls (WS layM (gA G a2) D) H → va_S (fun q => s.heap.size ≤ q) s.heap H locs → lv_has ls 4 lv →
    W p l e room_1 s m #[Value.ref b] below meth c H locs cc ss (lw_Z below #[Value.ref b] s) (F0 m pc ls st)
abbrev lvI (b : Nat) (G : Gx) (a2 : Nat → Nat) (i : Nat) : List (Nat × Value) := [(3, .int (nI i)), (2, .ref (a2 0)), (1, .ref (G.2.2.1 173)), (0, .ref b)]
theorem S_to {lay : List Sh} {G : Gx} {s : State} {H : Heap} {locs : List Loc} (hS : va_S (fun q => s.heap.size ≤ q) s.heap H locs) : va_S (Rg lay G) s.heap H [] := ⟨hS.1, fun q h1 _ => hS.2.1 q h1 (Nat.not_le.mpr h1), fun _ h => by cases h⟩
theorem P_other {lay : List Sh} {G : Gx} {M : Mm} {H H1 : Heap} {A : Nat → Prop} (h : va_P G.1 cls (WS lay G M) H) (hk : ∀ q : Nat, q < H.size → ¬ A q → H1[q]? = H[q]?) (hA : ∀ q, Rg lay G q → ¬ A q) : va_P G.1 cls (WS lay G M) H1 := by
  refine h.kept fun k q hq => ?_
  have hlt : k < lay.length := by have := (List.getElem?_eq_some_iff.mp hq).1; rwa [WS_len] at this
  refine hk q.1 (h k q hq).lt (hA q.1 ⟨k, hlt, ?_⟩)
  rw [WS_get (List.getElem?_eq_getElem hlt)] at hq
  cases hq; rfl
section LWR
variable {p : Program} {l : Launch} {e : Env} {s : State} {m : MethodId} {below : List Frame} {meth : Method} {c : Code} {b L : Nat} {xs : Nat → Int32} {G : Gx} {a2 : Nat → Nat} {cc ss : Nat} {pc : Nat} {lv : List (Nat × Value)} {st : List Value} {C D : Mm} {i : Nat}
theorem w_aload {n : Fin 4} {j x : Nat} (k : Nat) (F : LF p s m meth c b L xs G a2 cc ss) (d : decode code pc = .ok (.aload_n n, 1)) (hi : (n : Nat) = j) (hk : lv[k]? = some (j, .ref x)) (kk : LW p l e s m below meth c b G a2 cc ss (pc + 1) lv (.ref x :: st) C D) : LW p l e s m below meth c b G a2 cc ss pc lv st C D := by
  intro H locs ls hP hQ hS hl
  exact lv_aload_n F.1 F.2.1 d hi (lv_at hl k hk) (kk H locs ls hP hQ hS hl)
theorem w_arg {k : Nat} {n : Int} (F : LF p s m meth c b L xs G a2 cc ss) (h0 : decode code pc = .ok (.aload_n 0, 1)) (h1 : decode code (pc + 1) = .ok (.iload_n 3, 1)) (h2 : decode code (pc + 1 + 1) = .ok (.iconst n, 1)) (h3 : decode code (pc + 1 + 1 + 1) = .ok (.iadd, 1)) (h4 : decode code (pc + 1 + 1 + 1 + 1) = .ok (.iaload, 1)) (hn : Int32.ofInt n = nI k) (hk : i + k < L) (kk : LW p l e s m below meth c b G a2 cc ss (pc + 5) (lvI b G a2 i) (.int (xs (i + k)) :: st) C D) : LW p l e s m below meth c b G a2 cc ss pc (lvI b G a2 i) st C D := by
  intro H locs ls hP hQ hS hl
  obtain ⟨hx, hb, hr, hml, hown, hts, hX, hbl, hlo, hK, hE1, hE2, hI1, hI2, hR1, hR2, hc1, hs1, hL⟩ := id F
  refine lv_aload_n hx hb h0 rfl (lv_at hl 3 rfl) (lv_iload_n hx hb h1 rfl (lv_at hl 0 rfl) (lv_iconst hx hb h2 hn (lv_iadd hx hb h3 ?_)))
  rw [nI_add]
  refine va_sld hx hb hX hbl (Nat.not_le.mpr hbl) hS (inb_vp (inb_nI hk (by omega))) h4 ?_
  rw [show (nI (i + k)).toNatClampNeg = i + k from ix_nI (by omega)]
  exact kk H locs ls hP hQ hS hl
theorem w_callC {lev' : Nat} {y : MethodName} {b' : ByteArray} {maxL' n idx : Nat} {ret' : Option FieldType} {av rest : List Value} {fc : Option (Int32 × Mm)} {r : Int32} {C' : Mm} (F : LF p s m meth c b L xs G a2 cc ss) (hM : Mt cQi l layC G lev' y b' maxL' ret' (rf G 173 :: av) C fc) (ok : okC y b' maxL' ret' n) (lk : lkV RL idx y RX9) (hlev : Nat.ble lev' 2000 = true) (hn : av.length = n) (hst : st = av.reverse ++ rf G 173 :: rest) (hr8 : Nat.ble ((rest.map fun v => v.category).sum) 8 = true) (d : decode code pc = .ok (.invokevirtual idx, 3)) (hf : fc = some (r, C')) (kk : LW p l e s m below meth c b G a2 cc ss (pc + 3) lv (.int r :: rest) C' D) : LW p l e s m below meth c b G a2 cc ss pc lv st C D := by
  intro H locs ls hP hQ hS hl
  obtain ⟨hx, hb, hr, hml, hown, hts, hX, hbl, hlo, hK, hE1, hE2, hI1, hI2, hR1, hR2, hc1, hs1, hL⟩ := id F
  obtain ⟨k1, k2, k3, k4⟩ := ok
  have h1 := Nat.le_of_ble_eq_true hlev
  have h2 := Nat.le_of_ble_eq_true k4
  have hcl : isC layC 173 9 = true := by decide +kernel
  obtain ⟨fs, h3, h4⟩ := isC_spec hcl
  refine va_calli (va_runV (As := av) (rest := rest) (C := RX9) ⟨hx, hb, hml, hown, hts⟩ (hM (r, C') hf hI1) ⟨callB_of n hts (wds_good k1) rfl rfl rfl (hts _ (gw_in k2)) (hts _ (gw_in lk.1)) k3 ⟨by show lev' + 1 ≤ 2048; omega, by show 8 + (maxL' + 11) + 40 * lev' ≤ 84000; omega⟩, hts _ (gw_in lk.2.1), hts _ (gw_in lk.2.2)⟩ ⟨cP_blind, va_recv hK hP (ci := 9) rfl (WS_get h3), fun U hU hW => ⟨rfl, by rw [hU]; exact hP, va_K.moved hW.alike hK, Ev_move hE1 (S_to hS) hU hW⟩⟩ rfl hn hl.1 hst (lv_room (Nat.le_of_ble_eq_true hr8)) d ⟨hc1, hs1⟩) hS (fun q _ h => (hR1 q h).1) (fun q h => (hR1 q h).1) (fun r1 u t H1 locs1 ht hvm hw hB hz1 hk1 hS1 => ?_)
  cases hw
  have hB : va_P G.1 cls (WS layC G C') t.heap := hB
  rw [ht] at hB
  exact kk H1 locs1 ls hB (P_other (G := gA G a2) hQ hk1 (fun q hq hq2 => (hR1 q hq2).2 hq)) hS1 hl
theorem w_callM {lev' : Nat} {y : MethodName} {b' : ByteArray} {maxL' n idx : Nat} {ret' : Option FieldType} {av rest : List Value} {fc : Option (Int32 × Mm)} {r : Int32} {D' : Mm} (F : LF p s m meth c b L xs G a2 cc ss) (hM : Mt cQi l layM (gA G a2) lev' y b' maxL' ret' (rf (gA G a2) 0 :: av) D fc) (ok : okC y b' maxL' ret' n) (lk : lkV RL idx y RX10) (hlev : Nat.ble lev' 2000 = true) (hn : av.length = n) (hst : st = av.reverse ++ rf (gA G a2) 0 :: rest) (hr8 : Nat.ble ((rest.map fun v => v.category).sum) 8 = true) (d : decode code pc = .ok (.invokevirtual idx, 3)) (hf : fc = some (r, D')) (kk : LW p l e s m below meth c b G a2 cc ss (pc + 3) lv (.int r :: rest) C D') : LW p l e s m below meth c b G a2 cc ss pc lv st C D := by
  intro H locs ls hP hQ hS hl
  obtain ⟨hx, hb, hr, hml, hown, hts, hX, hbl, hlo, hK, hE1, hE2, hI1, hI2, hR1, hR2, hc1, hs1, hL⟩ := id F
  obtain ⟨k1, k2, k3, k4⟩ := ok
  have h1 := Nat.le_of_ble_eq_true hlev
  have h2 := Nat.le_of_ble_eq_true k4
  have hcl : isC layM 0 10 = true := by decide +kernel
  obtain ⟨fs, h3, h4⟩ := isC_spec hcl
  refine va_calli (va_runV (As := av) (rest := rest) (C := RX10) ⟨hx, hb, hml, hown, hts⟩ (hM (r, D') hf hI2) ⟨callB_of n hts (wds_good k1) rfl rfl rfl (hts _ (gw_in k2)) (hts _ (gw_in lk.1)) k3 ⟨by show lev' + 1 ≤ 2048; omega, by show 8 + (maxL' + 11) + 40 * lev' ≤ 84000; omega⟩, hts _ (gw_in lk.2.1), hts _ (gw_in lk.2.2)⟩ ⟨cP_blind, va_recv hK hQ (ci := 10) rfl (WS_get (G := gA G a2) h3), fun U hU hW => ⟨rfl, by rw [hU]; exact hQ, va_K.moved hW.alike hK, Ev_move hE2 (S_to hS) hU hW⟩⟩ rfl hn hl.1 hst (lv_room (Nat.le_of_ble_eq_true hr8)) d ⟨hc1, hs1⟩) hS (fun q _ h => hR2 q h) (fun q h => hR2 q h) (fun r1 u t H1 locs1 ht hvm hw hB hz1 hk1 hS1 => ?_)
  cases hw
  have hB : va_P G.1 cls (WS layM (gA G a2) D') t.heap := hB
  rw [ht] at hB
  exact kk H1 locs1 ls (P_other hP hk1 (fun q hq hq2 => (hR1 q hq).2 hq2)) hB hS1 hl
theorem w_eq {r : Int32} {off : Int} {tgt : Nat} (F : LF p s m meth c b L xs G a2 cc ss) (d : decode code pc = .ok (.if_icmp .eq off, 3)) (ht : (pc : Int) + off = (tgt : Int)) (kk : LW p l e s m below meth c b G a2 cc ss tgt lv st C D) : LW p l e s m below meth c b G a2 cc ss pc lv (.int r :: .int r :: st) C D := by
  intro H locs ls hP hQ hS hl
  exact lv_icmp_eq F.1 F.2.1 d ht (fun _ => kk H locs ls hP hQ hS hl) (fun h => absurd rfl h)
theorem w_i2l {x : Int32} (F : LF p s m meth c b L xs G a2 cc ss) (d : decode code pc = .ok (.i2l, 1)) (kk : LW p l e s m below meth c b G a2 cc ss (pc + 1) lv (.long x.toInt64 :: st) C D) : LW p l e s m below meth c b G a2 cc ss pc lv (.int x :: st) C D := by
  intro H locs ls hP hQ hS hl
  exact lv_i2l F.1 F.2.1 d rfl (kk H locs ls hP hQ hS hl)
theorem w_bipush {n : Int} {v : Int32} (F : LF p s m meth c b L xs G a2 cc ss) (d : decode code pc = .ok (.bipush n, 2)) (hv : (Int8.ofInt n).toInt32 = v) (kk : LW p l e s m below meth c b G a2 cc ss (pc + 2) lv (.int v :: st) C D) : LW p l e s m below meth c b G a2 cc ss pc lv st C D := by
  intro H locs ls hP hQ hS hl
  exact lv_bipush F.1 F.2.1 d hv (kk H locs ls hP hQ hS hl)
theorem w_lshl {x : Int64} {y : Int32} (F : LF p s m meth c b L xs G a2 cc ss) (d : decode code pc = .ok (.lshl, 1)) (kk : LW p l e s m below meth c b G a2 cc ss (pc + 1) lv (.long (x <<< (y.toInt64 &&& 63)) :: st) C D) : LW p l e s m below meth c b G a2 cc ss pc lv (.int y :: .long x :: st) C D := by
  intro H locs ls hP hQ hS hl
  exact lv_lshl F.1 F.2.1 d rfl (kk H locs ls hP hQ hS hl)
theorem w_ldc2 {n : Nat} {v : Int64} (F : LF p s m meth c b L xs G a2 cc ss) (d : decode code pc = .ok (.ldc2_w n, 3)) (h : gw (.constantLong RL n v)) (kk : LW p l e s m below meth c b G a2 cc ss (pc + 3) lv (.long v :: st) C D) : LW p l e s m below meth c b G a2 cc ss pc lv st C D := by
  intro H locs ls hP hQ hS hl
  exact lv_ldc2 F.1 F.2.1 F.2.2.2.2.1 (F.2.2.2.2.2.1 _ (gw_in h)) d (kk H locs ls hP hQ hS hl)
theorem w_land {x y : Int64} (F : LF p s m meth c b L xs G a2 cc ss) (d : decode code pc = .ok (.land, 1)) (kk : LW p l e s m below meth c b G a2 cc ss (pc + 1) lv (.long (x &&& y) :: st) C D) : LW p l e s m below meth c b G a2 cc ss pc lv (.long y :: .long x :: st) C D := by
  intro H locs ls hP hQ hS hl
  exact lv_land F.1 F.2.1 d (kk H locs ls hP hQ hS hl)
theorem w_lor {x y : Int64} (F : LF p s m meth c b L xs G a2 cc ss) (d : decode code pc = .ok (.lor, 1)) (kk : LW p l e s m below meth c b G a2 cc ss (pc + 1) lv (.long (x ||| y) :: st) C D) : LW p l e s m below meth c b G a2 cc ss pc lv (.long y :: .long x :: st) C D := by
  intro H locs ls hP hQ hS hl
  exact lv_lor F.1 F.2.1 d (kk H locs ls hP hQ hS hl)
end LWR
