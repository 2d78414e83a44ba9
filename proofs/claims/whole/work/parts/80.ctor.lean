/-! MAKING: rows for constructors; the world grows. -/
def NV (U : State) : Prop := (∀ w, nw w → va_Nw w U) ∧ va_AO RX3 U ∧ va_AO RX5 U ∧ va_AO RX4 U
theorem NV_calling {U : State} {g : JFrame} {mk : MethodId} {a : Array Value} (h : NV U) : NV (U.calling g mk a) := by
  have hv : U.vm.Alike (U.calling g mk a).vm := Vm.Alike.refl U.vm
  exact ⟨fun w hw => va_Nw.same (nw_tab hw) (u := U) rfl (h.1 w hw), va_AO.moved (u := U) hv h.2.1, va_AO.moved (u := U) hv h.2.2.1, va_AO.moved (u := U) hv h.2.2.2⟩
theorem NV_warm {s U : State} (hW : s.WarmedH U.vm) (h : NV s) : NV U := ⟨fun w hw => nw_warm hw hW (h.1 w hw), va_AO.moved hW.alike h.2.1, va_AO.moved hW.alike h.2.2.1, va_AO.moved hW.alike h.2.2.2⟩
def rmc (lev mc ms : Nat) : Room := { frames := lev, cells := mc, slots := ms, locals := 40 * lev }
theorem rmc_ok {lev lev' maxL mc ms mc' ms' : Nat} (h : Nat.ble (lev' + 1) lev = true) (h2 : Nat.ble maxL 21 = true) : (rmc lev' mc' ms').frames + 1 ≤ (rmc lev mc ms).frames ∧ 8 + (maxL + 11) + (rmc lev' mc' ms').locals ≤ (rmc lev mc ms).locals := by
  have h1 := Nat.le_of_ble_eq_true h
  have h3 := Nat.le_of_ble_eq_true h2
  constructor
  · exact h1
  · show 8 + (maxL + 11) + 40 * lev' ≤ 40 * lev
    omega
abbrev one (h0 ci : Nat) (df : List Value) : va_W := [(h0, .inr (ci, df))]
abbrev kA (h0 ci : Nat) (df : List Value) (sz : Nat) : Nat → Prop := va_A (one h0 ci df) sz
def kP (G : Gx) (sz h0 ci : Nat) (df av : List Value) : Array Value → State → Prop := va_Pc (.ref h0 :: av) (fun U => U.heap.size = sz ∧ va_P G.1 cls (one h0 ci df) U.heap ∧ va_K G.1 cls (tys G) U ∧ NV U)
def kQ (G : Gx) (sz h0 ci : Nat) (df : List Value) (wK : (Nat → Nat) → va_W) : Array Value → State → Outcome → State → Prop := va_Qv (fun ad : Nat → Nat => ad 0 = h0) (fun ad t => va_P G.1 cls (wK ad) t.heap ∧ va_D (kA h0 ci df sz) (wK ad)) (kA h0 ci df sz)
theorem kP_blind {G : Gx} {sz h0 ci : Nat} {df av : List Value} : FrameBlind (kP G sz h0 ci df av) := by
  intro a U g mk q
  obtain ⟨q0, q1, q2, q3, q4⟩ := q
  exact ⟨q0, q1, q2, va_K.moved (u := U) (U := U.calling g mk a) (Vm.Alike.refl U.vm) q3, NV_calling q4⟩
/-- a constructor's contract: at the new cell h0, its world comes -/
def CT (l : Launch) (G : Gx) (lev : Nat) (y : MethodName) (b : ByteArray) (maxL : Nat) (av : List Value) (h0 ci : Nat) (df : List Value) (wK : (Nat → Nat) → va_W) (mc ms : Nat) : Prop :=
  ∀ sz, Met l y (wds y b maxL none) (rmc lev mc ms) (kP G sz h0 ci df av) (kQ G sz h0 ci df wK) mc ms (kA h0 ci df sz)
def Cy (p : Program) (s : State) (m : MethodId) (args : Array Value) (meth : Method) (c : Code) (G : Gx) (b : ByteArray) (own : String) (maxL sz : Nat) (A : Nat → Prop) : Prop :=
  p.tables.exec = Jvm.exec ∧ c.code = b ∧ c.maxLocals = maxL ∧ s.vm.findClass own = some m.cls ∧ (∀ w ∈ tbG, w.before args s = true) ∧ meth.sig.returnType = none ∧ va_K G.1 cls (tys G) s ∧ NV s ∧ meth.locks = false ∧ meth.name = "<init>" ∧ s.heap.size = sz ∧ ∀ q, sz ≤ q → A q
def SC (Qf : Array Value → State → Outcome → State → Prop) (l : Launch) (G : Gx) (R : Room) (b : ByteArray) (own : String) (maxL sz : Nat) (A : Nat → Prop) (pc : Nat) (lv : List (Nat × Value)) (st : List Value) (ws : va_W) (cells slots : Nat) : Prop :=
  ∀ (p : Program) (e : Env) (s : State) (m : MethodId) (args : Array Value) (below : List Frame) (meth : Method) (c : Code) (H : Heap) (locs : List Loc) (ls : Array Slot), Cy p s m args meth c G b own maxL sz A → va_P G.1 cls ws H → va_D A ws → va_S A s.heap H locs → lv_has ls maxL lv →
    W p l e R s m args below meth c H locs cells slots (MQ below Qf args s R.cells R.slots A) (F0 m pc ls st)
theorem one_D {A : Nat → Prop} {h0 ci : Nat} {df : List Value} (h : A h0) : va_D A (one h0 ci df) := by
  refine ⟨fun i j p q hi hj _ => ?_, fun k q hk => ?_⟩
  · have := (List.getElem?_eq_some_iff.mp hi).1
    have := (List.getElem?_eq_some_iff.mp hj).1
    simp only [List.length_cons, List.length_nil] at *
    omega
  · have := (List.getElem?_eq_some_iff.mp hk).1
    simp only [List.length_cons, List.length_nil] at this
    obtain rfl : k = 0 := by omega
    cases hk
    exact h
theorem CT.of {l : Launch} {G : Gx} {lev : Nat} {y : MethodName} {b : ByteArray} {own : String} {maxL : Nat} {av : List Value} {h0 ci : Nat} {df : List Value} {wK : (Nat → Nat) → va_W} {mc ms : Nat} {lv : List (Nat × Value)}
    (ho : y.cls = own) (hy : plainName y.cls = true) (hy2 : y.name = "<init>") (hl : lv_args 0 (.ref h0 :: av) = lv) (hn : Nat.ble (lg_sl (.ref h0 :: av)).length maxL = true) (h : ∀ sz, SC (kQ G sz h0 ci df wK) l G (rmc lev mc ms) b own maxL sz (kA h0 ci df sz) 0 lv [] (one h0 ci df) 0 0) : CT l G lev y b maxL av h0 ci df wK mc ms := by
  intro sz
  subst ho
  refine Met.ofW (cc := b) (maxL := maxL) (ret := none) hy rfl ?_
  intro p e s m args below meth c s₁ B hml hv
  obtain ⟨rfl, hsz, hP, hK, hE⟩ := hv
  have hts := atoms_spec (ws := wds y b maxL none) B.pre
  have hown : s.vm.findClass y.cls = some m.cls := findClass_of_methodNamed B.named
  have hin : meth.name = "<init>" := (name_of_methodNamed B.named B.method).1.trans hy2
  have he := lv_entry (.ref h0 :: av) (n := maxL) (Nat.le_of_ble_eq_true hn)
  rw [lg_entry_eq]
  rw [hl] at he
  exact h sz p e s m _ below meth c s.heap [] _ ⟨B.exec, B.bytes, hml, hown, fun w hw => hts w (List.mem_cons_of_mem _ hw), B.returns, hK, hE, B.notSynchronized, hin, hsz, fun q hq => Or.inr hq⟩ hP (one_D (va_A.in (ws := one h0 ci df) (k := 0) rfl)) va_S.rf he
section CR
variable {Qf : Array Value → State → Outcome → State → Prop} {l : Launch} {G : Gx} {lev mcR msR : Nat} {b : ByteArray} {own : String} {maxL sz : Nat} {A : Nat → Prop} {pc : Nat} {lv : List (Nat × Value)} {st : List Value} {ws : va_W} {cells slots : Nat}
theorem c_iconst {n : Int} {v : Int32} (d : decode b pc = .ok (.iconst n, 1)) (hv : Int32.ofInt n = v) (kk : SC Qf l G (rmc lev mcR msR) b own maxL sz A (pc + 1) lv (.int v :: st) ws cells slots) : SC Qf l G (rmc lev mcR msR) b own maxL sz A pc lv st ws cells slots := by
  intro p e s m args below meth c H locs ls Cc hP hD hS hl
  obtain ⟨hx, hb, hml, hown, hts, hr, hK, hE, hlo, hin, hsz, hA⟩ := id Cc
  exact lv_iconst hx hb d hv (kk p e s m args below meth c H locs ls Cc hP hD hS hl)
theorem c_bipush {n : Int} {v : Int32} (d : decode b pc = .ok (.bipush n, 2)) (hv : (Int8.ofInt n).toInt32 = v) (kk : SC Qf l G (rmc lev mcR msR) b own maxL sz A (pc + 2) lv (.int v :: st) ws cells slots) : SC Qf l G (rmc lev mcR msR) b own maxL sz A pc lv st ws cells slots := by
  intro p e s m args below meth c H locs ls Cc hP hD hS hl
  obtain ⟨hx, hb, hml, hown, hts, hr, hK, hE, hlo, hin, hsz, hA⟩ := id Cc
  exact lv_bipush hx hb d hv (kk p e s m args below meth c H locs ls Cc hP hD hS hl)
theorem c_sipush {n : Int} {v : Int32} (d : decode b pc = .ok (.sipush n, 3)) (hv : (Int16.ofInt n).toInt32 = v) (kk : SC Qf l G (rmc lev mcR msR) b own maxL sz A (pc + 3) lv (.int v :: st) ws cells slots) : SC Qf l G (rmc lev mcR msR) b own maxL sz A pc lv st ws cells slots := by
  intro p e s m args below meth c H locs ls Cc hP hD hS hl
  obtain ⟨hx, hb, hml, hown, hts, hr, hK, hE, hlo, hin, hsz, hA⟩ := id Cc
  exact lv_sipush hx hb d hv (kk p e s m args below meth c H locs ls Cc hP hD hS hl)
theorem c_iload_n {n : Fin 4} {i : Nat} {x : Int32} (k : Nat) (d : decode b pc = .ok (.iload_n n, 1)) (hi : (n : Nat) = i) (hk : lv[k]? = some (i, .int x)) (kk : SC Qf l G (rmc lev mcR msR) b own maxL sz A (pc + 1) lv (.int x :: st) ws cells slots) : SC Qf l G (rmc lev mcR msR) b own maxL sz A pc lv st ws cells slots := by
  intro p e s m args below meth c H locs ls Cc hP hD hS hl
  obtain ⟨hx, hb, hml, hown, hts, hr, hK, hE, hlo, hin, hsz, hA⟩ := id Cc
  exact lv_iload_n hx hb d hi (lv_at hl k hk) (kk p e s m args below meth c H locs ls Cc hP hD hS hl)
theorem c_aload_n {n : Fin 4} {i : Nat} {x : Nat} (k : Nat) (d : decode b pc = .ok (.aload_n n, 1)) (hi : (n : Nat) = i) (hk : lv[k]? = some (i, .ref x)) (kk : SC Qf l G (rmc lev mcR msR) b own maxL sz A (pc + 1) lv (.ref x :: st) ws cells slots) : SC Qf l G (rmc lev mcR msR) b own maxL sz A pc lv st ws cells slots := by
  intro p e s m args below meth c H locs ls Cc hP hD hS hl
  obtain ⟨hx, hb, hml, hown, hts, hr, hK, hE, hlo, hin, hsz, hA⟩ := id Cc
  exact lv_aload_n hx hb d hi (lv_at hl k hk) (kk p e s m args below meth c H locs ls Cc hP hD hS hl)
theorem c_istore_n {n : Fin 4} {i : Nat} {x : Int32} {lv' : List (Nat × Value)} (d : decode b pc = .ok (.istore_n n, 1)) (hi : (n : Nat) = i) (hn : Nat.ble (i + 1) maxL = true) (hl' : (i, Value.int x) :: lv.filter (fun q => !(q.1 == i) && !(q.1 + 1 == i && q.2.category == 2)) = lv') (kk : SC Qf l G (rmc lev mcR msR) b own maxL sz A (pc + 1) lv' st ws cells slots) : SC Qf l G (rmc lev mcR msR) b own maxL sz A pc lv (.int x :: st) ws cells slots := by
  intro p e s m args below meth c H locs ls Cc hP hD hS hl
  obtain ⟨hx, hb, hml, hown, hts, hr, hK, hE, hlo, hin, hsz, hA⟩ := id Cc
  exact lv_istore_n hx hb d hi hl (Nat.le_of_ble_eq_true hn) hl' (fun ls hl => kk p e s m args below meth c H locs ls Cc hP hD hS hl)
theorem c_iinc {i k : Nat} {n : Int} {x v : Int32} {lv' : List (Nat × Value)} (d : decode b pc = .ok (.iinc i n, 3)) (hk : lv[k]? = some (i, .int x)) (hv : Int32.ofInt n = v) (hn : Nat.ble (i + 1) maxL = true) (hl' : (i, Value.int (x + v)) :: lv.filter (fun q => !(q.1 == i) && !(q.1 + 1 == i && q.2.category == 2)) = lv') (kk : SC Qf l G (rmc lev mcR msR) b own maxL sz A (pc + 3) lv' st ws cells slots) : SC Qf l G (rmc lev mcR msR) b own maxL sz A pc lv st ws cells slots := by
  intro p e s m args below meth c H locs ls Cc hP hD hS hl
  obtain ⟨hx, hb, hml, hown, hts, hr, hK, hE, hlo, hin, hsz, hA⟩ := id Cc
  exact lv_iinc hx hb d hl hk (by rw [hv]) (Nat.le_of_ble_eq_true hn) hl' (fun ls hl => kk p e s m args below meth c H locs ls Cc hP hD hS hl)
theorem c_iadd {x y : Int32} (d : decode b pc = .ok (.iadd, 1)) (kk : SC Qf l G (rmc lev mcR msR) b own maxL sz A (pc + 1) lv (.int (x + y) :: st) ws cells slots) : SC Qf l G (rmc lev mcR msR) b own maxL sz A pc lv (.int y :: .int x :: st) ws cells slots := by
  intro p e s m args below meth c H locs ls Cc hP hD hS hl
  obtain ⟨hx, hb, hml, hown, hts, hr, hK, hE, hlo, hin, hsz, hA⟩ := id Cc
  exact lv_iadd hx hb d (kk p e s m args below meth c H locs ls Cc hP hD hS hl)
theorem c_dup {v : Value} (d : decode b pc = .ok (.dup, 1)) (hc : v.category = 1) (kk : SC Qf l G (rmc lev mcR msR) b own maxL sz A (pc + 1) lv (v :: v :: st) ws cells slots) : SC Qf l G (rmc lev mcR msR) b own maxL sz A pc lv (v :: st) ws cells slots := by
  intro p e s m args below meth c H locs ls Cc hP hD hS hl
  obtain ⟨hx, hb, hml, hown, hts, hr, hK, hE, hlo, hin, hsz, hA⟩ := id Cc
  exact lv_dup hx hb d hc (kk p e s m args below meth c H locs ls Cc hP hD hS hl)
theorem c_goto {off : Int} {tgt : Nat} (d : decode b pc = .ok (.goto off, 3)) (ht : (pc : Int) + off = (tgt : Int)) (kk : SC Qf l G (rmc lev mcR msR) b own maxL sz A tgt lv st ws cells slots) : SC Qf l G (rmc lev mcR msR) b own maxL sz A pc lv st ws cells slots := by
  intro p e s m args below meth c H locs ls Cc hP hD hS hl
  obtain ⟨hx, hb, hml, hown, hts, hr, hK, hE, hlo, hin, hsz, hA⟩ := id Cc
  exact lv_goto hx hb d ht (kk p e s m args below meth c H locs ls Cc hP hD hS hl)
theorem c_icmpge {x y : Int32} {off : Int} {tgt : Nat} (d : decode b pc = .ok (.if_icmp .ge off, 3)) (ht : (pc : Int) + off = (tgt : Int)) (kt : y ≤ x → SC Qf l G (rmc lev mcR msR) b own maxL sz A tgt lv st ws cells slots) (kf : ¬ y ≤ x → SC Qf l G (rmc lev mcR msR) b own maxL sz A (pc + 3) lv st ws cells slots) : SC Qf l G (rmc lev mcR msR) b own maxL sz A pc lv (.int y :: .int x :: st) ws cells slots := by
  intro p e s m args below meth c H locs ls Cc hP hD hS hl
  obtain ⟨hx, hb, hml, hown, hts, hr, hK, hE, hlo, hin, hsz, hA⟩ := id Cc
  exact lv_icmp_ge hx hb d ht (fun h => kt h p e s m args below meth c H locs ls Cc hP hD hS hl) (fun h => kf h p e s m args below meth c H locs ls Cc hP hD hS hl)
theorem c_max {x y : Int32} {idx : Nat} (hlv : Nat.ble 1 lev = true) (hr8 : Nat.ble ((st.map fun v => v.category).sum) 20 = true) (hc : cells ≤ mcR) (hs2 : slots ≤ msR) (hk : gw (.methodLink own idx Lib.Math.max.name)) (hs : gw (.static Lib.Math.max.name)) (hi : gw (.initialized "java/lang/Math")) (hcd : gw (.code Lib.Math.max.name Lib.Math.max.code 2 (some .int))) (d : decode b pc = .ok (.invokestatic idx, 3)) (kk : SC Qf l G (rmc lev mcR msR) b own maxL sz A (pc + 3) lv (.int (if x < y then y else x) :: st) ws cells slots) : SC Qf l G (rmc lev mcR msR) b own maxL sz A pc lv (.int y :: .int x :: st) ws cells slots := by
  intro p e s m args below meth c H locs ls Cc hP hD hS hl
  obtain ⟨hx, hb, hml, hown, hts, hr, hK, hE, hlo, hin, hsz, hA⟩ := id Cc
  have h1 := Nat.le_of_ble_eq_true hlv
  have h2 := Nat.le_of_ble_eq_true hr8
  exact va_mmax hx hb (hml.trans hl.1.symm) hown (hts _ (gw_in hk)) (hts _ (gw_in hs)) (hts _ (gw_in hi)) (hts _ (gw_in hcd)) h1 (by show _ ≤ 40 * lev; omega) hc hs2 d (kk p e s m args below meth c H locs ls Cc hP hD hS hl)
theorem c_obj {idx a : Nat} (hk : gw (.methodLink own idx Lib.objectInit)) (hi : gw (.instanceMethod Lib.objectInit)) (hcd : gw (.code Lib.objectInit ⟨#[0xb1]⟩ 1 none)) (hlv : Nat.ble 1 lev = true) (d : decode b pc = .ok (.invokespecial idx, 3)) (kk : SC Qf l G (rmc lev mcR msR) b own maxL sz A (pc + 3) lv [] ws cells slots) : SC Qf l G (rmc lev mcR msR) b own maxL sz A pc lv [.ref a] ws cells slots := by
  intro p e s m args below meth c H locs ls Cc hP hD hS hl
  obtain ⟨hx, hb, hml, hown, hts, hr, hK, hE, hlo, hin, hsz, hA⟩ := id Cc
  have h1 := Nat.le_of_ble_eq_true hlv
  refine W.objInit hx hb hown (hts _ (gw_in hk)) (hts _ (gw_in hi)) (hts _ (gw_in hcd)) rfl (by rw [hml]; exact hl.1) rfl d h1 (by show 0 + 0 + 12 ≤ 40 * lev; omega) ?_
  exact kk p e s m args below meth c H locs ls Cc hP hD hS hl
theorem c_new {C : String} {T : u_T} {N ci idx : Nat} {ty : Nat → FieldType} {fs : List Value} (hcl : cls[ci]? = some (C, T, N)) (hin : ∀ w ∈ u_ws C T N, w ∈ tbG) (hty : ∀ k, k < N → parseFieldDescriptor (T k).2.2.1 = some (ty k)) (hk : gw (.classLink own idx C)) (hi : gw (.instantiable C N)) (hn : gw (.initialized C)) (hfs : ∀ j, j < N → defaultValue (ty j) = vp_V fs j) (hc : cells + 1 ≤ mcR) (hs : slots + N ≤ msR) (d : decode b pc = .ok (.new idx, 3)) (kk : ∀ q, SC Qf l G (rmc lev mcR msR) b own maxL sz A (pc + 3) lv (.ref q :: st) (ws ++ one q ci fs) (cells + 1) (slots + N)) : SC Qf l G (rmc lev mcR msR) b own maxL sz A pc lv st ws cells slots := by
  intro p e s m args below meth c H locs ls Cc hP hD hS hl
  obtain ⟨hx, hb, hml, hown, hts, hr, hK, hE, hlo, hin2, hsz, hA⟩ := id Cc
  exact va_new (D := G.1) (cl := cls) (ci := ci) (fs := fs) (C := C) (T := T) (N := N) hx hb hts hin ty hty hown (hts _ (gw_in hk)) (hts _ (gw_in hi)) (hts _ (gw_in hn)) hK hP hD hS (fun q hq => hA q (by rw [← hsz]; exact hq)) hcl hfs hc hs d (fun q H1 hP1 hD1 hS1 => kk q p e s m args below meth c H1 locs ls Cc hP1 hD1 hS1 hl)
theorem ty_int {cA : ClassId} {s : State} (h : va_K G.1 cls (tys G ++ [(cA, .int)]) s) : cA = G.2.1 0 := by
  have h1 : s.vm.findClass ("[" ++ FieldType.int.toString) = some (G.2.1 0) := (h.2 0 (G.2.1 0, .int) rfl).2
  have h2 : s.vm.findClass ("[" ++ FieldType.int.toString) = some cA := (h.2 4 (cA, .int) rfl).2
  rw [h1] at h2
  exact (Option.some.inj h2).symm
theorem ty_obj {cA : ClassId} {s : State} {C : String} {t : Nat} (ht : (tys G)[t]? = some (G.2.1 t, .object C)) (h : va_K G.1 cls (tys G ++ [(cA, .object C)]) s) : cA = G.2.1 t := by
  have hlt : t < (tys G).length := (List.getElem?_eq_some_iff.mp ht).1
  obtain ⟨_, _, _, _, _, h1⟩ := (h.2 t (G.2.1 t, .object C) (by rw [List.getElem?_append_left hlt]; exact ht)).2
  obtain ⟨_, _, _, _, _, h2⟩ := (h.2 4 (cA, .object C) rfl).2
  rw [h1] at h2
  exact (Option.some.inj h2).symm
abbrev ints (G : Gx) (q n : Nat) (f : Nat → Int32) : Nat × va_E := (q, .inl (G.2.1 0, n, .inl f))
abbrev refs (G : Gx) (t q n : Nat) (f : Nat → Option Nat) : Nat × va_E := (q, .inl (G.2.1 t, n, .inr (.inr (.inr (.inr f)))))
theorem c_newI {n : Int32} {N : Nat} (hw : gw (.arrayClass .int)) (hn : ¬ n < 0) (hN : n.toNatClampNeg = N) (hb4 : Nat.ble N 1000 = true) (hc : cells + 1 ≤ mcR) (hs : slots + N ≤ msR) (d : decode b pc = .ok (.newarray .int, 2)) (kk : ∀ q, SC Qf l G (rmc lev mcR msR) b own maxL sz A (pc + 2) lv (.ref q :: st) (ws ++ [ints G q N (fun _ => 0)]) (cells + 1) (slots + N)) : SC Qf l G (rmc lev mcR msR) b own maxL sz A pc lv (.int n :: st) ws cells slots := by
  intro p e s m args below meth c H locs ls Cc hP hD hS hl
  obtain ⟨hx, hb, hml, hown, hts, hr, hK, hE, hlo, hin2, hsz, hA⟩ := id Cc
  have h4 := Nat.le_of_ble_eq_true hb4
  refine va_newa (D := G.1) (cl := cls) (atype := .int) (ty := .int) (a0 := (N, .inl (fun _ => 0))) (N' := N) hx hb (hts _ (gw_in hw)) rfl hK hP hD hS (fun q hq => hA q (by rw [← hsz]; exact hq)) (fun cA => rfl) hn hN (by show N * 4 ≤ _; omega) hc hs d (fun q cA H1 hK1 hP1 hD1 hS1 => ?_)
  obtain rfl := ty_int hK1
  exact kk q p e s m args below meth c H1 locs ls Cc hP1 hD1 hS1 hl
theorem c_newR {n : Int32} {N t idx : Nat} {C : String} (ht : (tys G)[t]? = some (G.2.1 t, .object C)) (hw : gw (.classLink own idx C)) (ho : ∀ s, NV s → va_AO C s) (hn : ¬ n < 0) (hN : n.toNatClampNeg = N) (hb4 : Nat.ble N 1000 = true) (hc : cells + 1 ≤ mcR) (hs : slots + N ≤ msR) (d : decode b pc = .ok (.anewarray idx, 3)) (kk : ∀ q, SC Qf l G (rmc lev mcR msR) b own maxL sz A (pc + 3) lv (.ref q :: st) (ws ++ [refs G t q N (fun _ => none)]) (cells + 1) (slots + N)) : SC Qf l G (rmc lev mcR msR) b own maxL sz A pc lv (.int n :: st) ws cells slots := by
  intro p e s m args below meth c H locs ls Cc hP hD hS hl
  obtain ⟨hx, hb, hml, hown, hts, hr, hK, hE, hlo, hin2, hsz, hA⟩ := id Cc
  have h4 := Nat.le_of_ble_eq_true hb4
  refine va_newq (D := G.1) (cl := cls) (C := C) (N' := N) hx hb hown (hts _ (gw_in hw)) (ho s hE) hK hP hD hS (fun q hq => hA q (by rw [← hsz]; exact hq)) hn hN (by omega) hc hs d (fun q cA H1 hK1 hP1 hD1 hS1 => ?_)
  obtain rfl := ty_obj ht hK1
  exact kk q p e s m args below meth c H1 locs ls Cc hP1 hD1 hS1 hl
theorem c_putF {C : String} {T : u_T} {N ci idx q0 k a : Nat} {ty0 : Nat → FieldType} {fs : List Value} {v : Value} (he : ws[q0]? = some (a, .inr (ci, fs))) (hcl : cls[ci]? = some (C, T, N)) (hin : ∀ w ∈ u_ws C T N, w ∈ tbG) (hty : ∀ k, k < N → parseFieldDescriptor (T k).2.2.1 = some (ty0 k)) (hnm : ∀ a, a < N → ∀ b, b < N → a ≠ b → (T a).2.1 ≠ (T b).2.1) (hkN : Nat.ble (k + 1) N = true) (hlk : gw (.fieldLink own idx C (T k).2.1 (T k).2.2.1)) (hsm : (T k).1 = C) (hfin : (T k).2.2.2 = true) (ho : C = own) (hnr : narrow (ty0 k) v = v) (hft : fits (ty0 k) v = true) (hl2 : Nat.ble (k + 1) fs.length = true) (d : decode b pc = .ok (.putfield idx, 3)) (kk : SC Qf l G (rmc lev mcR msR) b own maxL sz A (pc + 3) lv st (ws.set q0 (a, .inr (ci, fs.set k v))) cells slots) : SC Qf l G (rmc lev mcR msR) b own maxL sz A pc lv (v :: .ref a :: st) ws cells slots := by
  intro p e s m args below meth c H locs ls Cc hP hD hS hl
  obtain ⟨hx, hb, hml, hown, hts, hr, hK, hE, hlo, hin2, hsz, hA⟩ := id Cc
  have hk2 : k < N := Nat.le_of_ble_eq_true hkN
  exact va_putF (D := G.1) (cl := cls) (C := C) (T := T) (N := N) (ci := ci) hx hb hts hin ty0 hty hnm hown hK hP hD hS q0 he hcl k hk2 (hts _ (gw_in hlk)) (fun _ z => by rw [hsm] at z; exact z) hfin hin2 (hsm.trans ho) (ty := ty0 k) (v := v) (hty k hk2) hnr hft (Nat.le_of_ble_eq_true hl2) d (fun H1 locs1 hP1 hD1 hS1 => kk p e s m args below meth c H1 locs1 ls Cc hP1 hD1 hS1 hl)
theorem c_put {C : String} {T : u_T} {N ci idx q0 k a : Nat} {ty0 : Nat → FieldType} {fs : List Value} {v : Value} (he : ws[q0]? = some (a, .inr (ci, fs))) (hcl : cls[ci]? = some (C, T, N)) (hin : ∀ w ∈ u_ws C T N, w ∈ tbG) (hty : ∀ k, k < N → parseFieldDescriptor (T k).2.2.1 = some (ty0 k)) (hnm : ∀ a, a < N → ∀ b, b < N → a ≠ b → (T a).2.1 ≠ (T b).2.1) (hkN : Nat.ble (k + 1) N = true) (hlk : gw (.fieldLink own idx C (T k).2.1 (T k).2.2.1)) (hsm : (T k).1 = C) (hfin : (T k).2.2.2 = false) (hnr : narrow (ty0 k) v = v) (hft : fits (ty0 k) v = true) (hl2 : Nat.ble (k + 1) fs.length = true) (d : decode b pc = .ok (.putfield idx, 3)) (kk : SC Qf l G (rmc lev mcR msR) b own maxL sz A (pc + 3) lv st (ws.set q0 (a, .inr (ci, fs.set k v))) cells slots) : SC Qf l G (rmc lev mcR msR) b own maxL sz A pc lv (v :: .ref a :: st) ws cells slots := by
  intro p e s m args below meth c H locs ls Cc hP hD hS hl
  obtain ⟨hx, hb, hml, hown, hts, hr, hK, hE, hlo, hin2, hsz, hA⟩ := id Cc
  have hk2 : k < N := Nat.le_of_ble_eq_true hkN
  exact va_put (D := G.1) (cl := cls) (C := C) (T := T) (N := N) (ci := ci) hx hb hts hin ty0 hty hnm hown hK hP hD hS q0 he hcl k hk2 (hts _ (gw_in hlk)) (fun _ z => by rw [hsm] at z; exact z) hfin (ty := ty0 k) (v := v) (hty k hk2) hnr hft (Nat.le_of_ble_eq_true hl2) d (fun H1 locs1 hP1 hD1 hS1 => kk p e s m args below meth c H1 locs1 ls Cc hP1 hD1 hS1 hl)
theorem c_get {C : String} {T : u_T} {N ci idx q0 k a : Nat} {fs : List Value} {v : Value} (he : ws[q0]? = some (a, .inr (ci, fs))) (hv : fs[k]? = some v) (hcl : cls[ci]? = some (C, T, N)) (hin : ∀ w ∈ u_ws C T N, w ∈ tbG) (hkN : Nat.ble (k + 1) N = true) (hlk : gw (.fieldLink own idx C (T k).2.1 (T k).2.2.1)) (hsm : (T k).1 = C) (d : decode b pc = .ok (.getfield idx, 3)) (kk : SC Qf l G (rmc lev mcR msR) b own maxL sz A (pc + 3) lv (v :: st) ws cells slots) : SC Qf l G (rmc lev mcR msR) b own maxL sz A pc lv (.ref a :: st) ws cells slots := by
  intro p e s m args below meth c H locs ls Cc hP hD hS hl
  obtain ⟨hx, hb, hml, hown, hts, hr, hK, hE, hlo, hin2, hsz, hA⟩ := id Cc
  exact va_get (D := G.1) (cl := cls) (C := C) (T := T) (N := N) (ci := ci) hx hb hts hin hown hK hP q0 he hcl k (Nat.le_of_ble_eq_true hkN) (hts _ (gw_in hlk)) (fun _ z => by rw [hsm] at z; exact z) hv d (kk p e s m args below meth c H locs ls Cc hP hD hS hl)
theorem c_getN {C host : String} {T : u_T} {N ci idx q0 k a : Nat} {fs : List Value} {v : Value} (he : ws[q0]? = some (a, .inr (ci, fs))) (hv : fs[k]? = some v) (hcl : cls[ci]? = some (C, T, N)) (hin : ∀ w ∈ u_ws C T N, w ∈ tbG) (hkN : Nat.ble (k + 1) N = true) (hlk : nw (.fieldLinkNest own idx C (T k).2.1 (T k).2.2.1 host)) (hsm : (T k).1 = C) (d : decode b pc = .ok (.getfield idx, 3)) (kk : SC Qf l G (rmc lev mcR msR) b own maxL sz A (pc + 3) lv (v :: st) ws cells slots) : SC Qf l G (rmc lev mcR msR) b own maxL sz A pc lv (.ref a :: st) ws cells slots := by
  intro p e s m args below meth c H locs ls Cc hP hD hS hl
  obtain ⟨hx, hb, hml, hown, hts, hr, hK, hE, hlo, hin2, hsz, hA⟩ := id Cc
  exact va_getN (D := G.1) (cl := cls) (C := C) (T := T) (N := N) (ci := ci) hx hb hts hin hown hK hP q0 he hcl k (Nat.le_of_ble_eq_true hkN) (va_Nw.use rfl (hE.1 _ hlk)) (fun _ z => by rw [hsm] at z; exact z) hv d (kk p e s m args below meth c H locs ls Cc hP hD hS hl)
theorem c_iast {q0 a N : Nat} {f : Nat → Int32} {i x : Int32} (he : ws[q0]? = some (ints G a N f)) (hi : inb i N = true) (d : decode b pc = .ok (.iastore, 1)) (kk : SC Qf l G (rmc lev mcR msR) b own maxL sz A (pc + 1) lv st (ws.set q0 (ints G a N (upd f i.toNatClampNeg x))) cells slots) : SC Qf l G (rmc lev mcR msR) b own maxL sz A pc lv (.int x :: .int i :: .ref a :: st) ws cells slots := by
  intro p e s m args below meth c H locs ls Cc hP hD hS hl
  obtain ⟨hx, hb, hml, hown, hts, hr, hK, hE, hlo, hin2, hsz, hA⟩ := id Cc
  exact va_iast (D := G.1) (cl := cls) hx hb hK hP hD hS q0 0 he rfl (inb_vp hi) d (fun H1 locs1 hP1 hD1 hS1 => kk p e s m args below meth c H1 locs1 ls Cc hP1 hD1 hS1 hl)
/-- the object's cell stands first in what was appended last -/
theorem c_aast {t q0 a N v ci : Nat} {f : Nat → Option Nat} {C : String} {T : u_T} {nf : Nat} {vs : List Value} {w : va_W} {i : Int32} (ht : (tys G)[t]? = some (G.2.1 t, .object C)) (he : ws[q0]? = some (refs G t a N f)) (hw : w[0]? = some (v, .inr (ci, vs))) (hcl : cls[ci]? = some (C, T, nf)) (hi : inb i N = true) (d : decode b pc = .ok (.aastore, 1)) (kk : SC Qf l G (rmc lev mcR msR) b own maxL sz A (pc + 1) lv st (ws.set q0 (refs G t a N (va_up f i.toNatClampNeg (some v))) ++ w) cells slots) : SC Qf l G (rmc lev mcR msR) b own maxL sz A pc lv (.ref v :: .int i :: .ref a :: st) (ws ++ w) cells slots := by
  intro p e s m args below meth c H locs ls Cc hP hD hS hl
  obtain ⟨hx, hb, hml, hown, hts, hr, hK, hE, hlo, hin2, hsz, hA⟩ := id Cc
  have hlt : q0 < ws.length := (List.getElem?_eq_some_iff.mp he).1
  have hset : ∀ y : Nat × va_E, (ws ++ w).set q0 y = ws.set q0 y ++ w := fun y => List.set_append_left _ _ hlt
  refine va_astq (D := G.1) (cl := cls) (r := (C, T, nf)) (vs := vs) hx hb hK hP hD hS q0 t ws.length ci (by rw [List.getElem?_append_left hlt]; exact he) ht (by rw [List.getElem?_append_right (Nat.le_refl _), Nat.sub_self]; exact hw) hcl (inb_vp hi) d (fun H1 locs1 hP1 hD1 hS1 => ?_)
  rw [hset] at hP1 hD1
  exact kk p e s m args below meth c H1 locs1 ls Cc hP1 hD1 hS1 hl
def okI (y : MethodName) (b : ByteArray) (maxL n : Nat) : Prop := gw (.code y b maxL none) ∧ gw (.initialized y.cls) ∧ gw (.instanceMethod y) ∧ y.name = "<init>" ∧ (y.cls ≠ "java/lang/invoke/MethodHandle" ∧ y.cls ≠ "java/lang/invoke/VarHandle" ∧ (parseMethodDescriptor y.desc).map (fun d => d.parameters.length) = some n) ∧ Nat.ble maxL 21 = true
theorem nd_range' : ∀ (n k : Nat), va_nd (List.range' k n) = true
  | 0, _ => rfl
  | n + 1, k => by
    rw [List.range'_succ]
    show (decide (k ∉ List.range' (k + 1) n) && va_nd (List.range' (k + 1) n)) = true
    rw [nd_range' n (k + 1), Bool.and_true, decide_eq_true_eq]
    intro h
    have := (List.mem_range'_1.mp h).1
    omega
theorem map_range' (w1 w2 : va_W) : (List.range' 0 w1.length).map (fun i => (w1 ++ w2)[i]?) = w1.map some := by
  refine List.ext_getElem? fun i => ?_
  rw [List.getElem?_map, List.getElem?_map]
  by_cases h : i < w1.length
  · rw [List.getElem?_range' (by omega)]
    simp [List.getElem?_append_left h, List.getElem?_eq_getElem h]
  · rw [List.getElem?_eq_none (by simpa using h), List.getElem?_eq_none (by omega)]; rfl
theorem join1 {D : va_G} {cl : List vw_C} {A0 : Nat → Prop} {ws0 w1 : va_W} {x : Nat × va_E} {H H1 : Heap} (hP : va_P D cl (ws0 ++ [x]) H) (hD : va_D A0 (ws0 ++ [x])) (hk : ∀ q : Nat, q < H.size → ¬ va_A [x] H.size q → H1[q]? = H[q]?) (hF : ∀ q, va_A [x] H.size q → A0 q) (hP1 : va_P D cl w1 H1) (hD1 : va_D (va_A [x] H.size) w1) : va_P D cl (ws0 ++ w1) H1 ∧ va_D A0 (ws0 ++ w1) := by
  refine va_join (wc := [x]) (wr := ws0) hP hD [ws0.length] (List.range' 0 ws0.length) ?_ (map_range' ws0 [x]) (nd_range' _ _) (fun i hi => ?_) hk hF hP1 hD1
  · simp
  · have := (List.mem_range'_1.mp hi).2
    simp only [List.mem_singleton]
    omega
theorem c_init {lev' : Nat} {y : MethodName} {b' : ByteArray} {maxL' n idx q ci mc ms : Nat} {av df rest : List Value} {wK : (Nat → Nat) → va_W} (hM : CT l G lev' y b' maxL' av q ci df wK mc ms) (ok : okI y b' maxL' n) (lk : gw (.methodLink own idx y)) (hlev : Nat.ble (lev' + 1) lev = true) (hn : av.length = n) (hst : st = av.reverse ++ .ref q :: rest) (hr8 : Nat.ble ((rest.map fun v => v.category).sum) 8 = true) (hc : cells + mc ≤ mcR) (hs : slots + ms ≤ msR) (d : decode b pc = .ok (.invokespecial idx, 3)) (kk : ∀ ad : Nat → Nat, ad 0 = q → SC Qf l G (rmc lev mcR msR) b own maxL sz A (pc + 3) lv rest (ws ++ wK ad) (cells + mc) (slots + ms)) : SC Qf l G (rmc lev mcR msR) b own maxL sz A pc lv st (ws ++ one q ci df) cells slots := by
  intro p e s m args below meth c H locs ls Cc hP hD hS hl
  obtain ⟨hx, hb, hml, hown, hts, hr, hK, hE, hlo, hin2, hsz, hA⟩ := id Cc
  obtain ⟨k1, k2, k3, k4, k5, k6⟩ := ok
  have hA2 : ∀ q, s.heap.size ≤ q → A q := fun q hq => hA q (by rw [← hsz]; exact hq)
  have hFc := va_free (wc := one q ci df) hD hS hA2 [ws.length] (by simp)
  have hPc : va_P G.1 cls (one q ci df) H := hP.sub [ws.length] (by simp)
  refine va_callv (va_runI (As := av) (rest := rest) ⟨hx, hb, hml, hown, hts⟩ (hM H.size) (cwI n hts (wds_good k1) rfl rfl rfl (hts _ (gw_in k2)) (hts _ (gw_in lk)) (hts _ (gw_in k3)) k4 k5 (rmc_ok hlev k6)) ⟨kP_blind, fun U hU hW => ⟨rfl, by rw [hU], by rw [hU]; exact hPc, va_K.moved hW.alike hK, NV_warm hW hE⟩⟩ rfl hn hl.1 hst (lv_room (Nat.le_of_ble_eq_true hr8)) d ⟨hc, hs⟩) hS (fun q _ h => hFc q h) hFc (fun u t H1 locs1 ht hvm hw hB hz1 hk1 hS1 => ?_)
  obtain ⟨hP1, hD1⟩ := hB
  rw [ht] at hP1
  obtain ⟨hP2, hD2⟩ := join1 hP hD hk1 hFc hP1 hD1
  exact kk u hw p e s m args below meth c H1 locs1 ls Cc hP2 hD2 hS1 hl
theorem c_initN {lev' : Nat} {y : MethodName} {b' : ByteArray} {host : String} {maxL' n idx q ci mc ms : Nat} {av df rest : List Value} {wK : (Nat → Nat) → va_W} (hM : CT l G lev' y b' maxL' av q ci df wK mc ms) (ok : okI y b' maxL' n) (lk : nw (.methodLinkNest own idx y host)) (hlev : Nat.ble (lev' + 1) lev = true) (hn : av.length = n) (hst : st = av.reverse ++ .ref q :: rest) (hr8 : Nat.ble ((rest.map fun v => v.category).sum) 8 = true) (hc : cells + mc ≤ mcR) (hs : slots + ms ≤ msR) (d : decode b pc = .ok (.invokespecial idx, 3)) (kk : ∀ ad : Nat → Nat, ad 0 = q → SC Qf l G (rmc lev mcR msR) b own maxL sz A (pc + 3) lv rest (ws ++ wK ad) (cells + mc) (slots + ms)) : SC Qf l G (rmc lev mcR msR) b own maxL sz A pc lv st (ws ++ one q ci df) cells slots := by
  intro p e s m args below meth c H locs ls Cc hP hD hS hl
  obtain ⟨hx, hb, hml, hown, hts, hr, hK, hE, hlo, hin2, hsz, hA⟩ := id Cc
  obtain ⟨k1, k2, k3, k4, k5, k6⟩ := ok
  have hA2 : ∀ q, s.heap.size ≤ q → A q := fun q hq => hA q (by rw [← hsz]; exact hq)
  have hFc := va_free (wc := one q ci df) hD hS hA2 [ws.length] (by simp)
  have hPc : va_P G.1 cls (one q ci df) H := hP.sub [ws.length] (by simp)
  refine va_callv (va_runIN (As := av) (rest := rest) ⟨hx, hb, hml, hown, hts⟩ (hM H.size) ⟨va_cnB n hts (wds_good k1) rfl rfl rfl (hE.1 _ lk) (hts _ (gw_in k2)) k5 (rmc_ok hlev k6), k4, hts _ (gw_in k3)⟩ ⟨kP_blind, fun U hU hW => ⟨rfl, by rw [hU], by rw [hU]; exact hPc, va_K.moved hW.alike hK, NV_warm hW hE⟩⟩ rfl hn hl.1 hst (lv_room (Nat.le_of_ble_eq_true hr8)) d ⟨hc, hs⟩) hS (fun q _ h => hFc q h) hFc (fun u t H1 locs1 ht hvm hw hB hz1 hk1 hS1 => ?_)
  obtain ⟨hP1, hD1⟩ := hB
  rw [ht] at hP1
  obtain ⟨hP2, hD2⟩ := join1 hP hD hk1 hFc hP1 hD1
  exact kk u hw p e s m args below meth c H1 locs1 ls Cc hP2 hD2 hS1 hl
theorem c_ret {h0 ci : Nat} {df : List Value} {wK : (Nat → Nat) → va_W} (ad : Nat → Nat) (h : ad 0 = h0) (hw : ∀ H, va_P G.1 cls ws H → va_P G.1 cls (wK ad) H) (hd : va_D (kA h0 ci df sz) ws → va_D (kA h0 ci df sz) (wK ad)) (hc : cells ≤ mcR) (hs : slots ≤ msR) (d : decode b pc = .ok (.return_, 1)) : SC (kQ G sz h0 ci df wK) l G (rmc lev mcR msR) b own maxL sz (kA h0 ci df sz) pc lv [] ws cells slots := by
  intro p e s m args below meth c H locs ls Cc hP hD hS hl
  obtain ⟨hx, hb, hml, hown, hts, hr, hK, hE, hlo, hin2, hsz, hA⟩ := id Cc
  refine W.widen (k := mcR) (n := msR) hc hs ?_
  exact W.vret hx hb hr (fun t ht hW => ⟨⟨ad, rfl, h, by rw [ht]; exact hw H hP, hd hD⟩, hS.F ht⟩) hS.2.2 d hlo
end CR
