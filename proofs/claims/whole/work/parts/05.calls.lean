/-! CALLS: a callee's contract, its words, its frame. -/
def okC (y : MethodName) (b : ByteArray) (maxL : Nat) (ret : Option FieldType) (n : Nat) : Prop := gw (.code y b maxL ret) ∧ gw (.initialized y.cls) ∧ (y.cls ≠ "java/lang/invoke/MethodHandle" ∧ y.cls ≠ "java/lang/invoke/VarHandle" ∧ (parseMethodDescriptor y.desc).map (fun d => d.parameters.length) = some n) ∧ Nat.ble maxL 21 = true
def lkS (own : String) (idx : Nat) (y : MethodName) : Prop := gw (.methodLink own idx y) ∧ gw (.static y)
def lkV (own : String) (idx : Nat) (y : MethodName) (C : String) : Prop := gw (.methodLink own idx y) ∧ gw (.instanceMethod y) ∧ gw (.selects C y y)
def lkSN (own : String) (idx : Nat) (y : MethodName) (host : String) : Prop := nw (.methodLinkNest own idx y host) ∧ gw (.static y)
theorem wds_good {y : MethodName} {b : ByteArray} {maxL : Nat} {ret : Option FieldType} (h : gw (.code y b maxL ret)) : GoodIn tbG (wds y b maxL ret) := by
  intro w hw
  rcases List.mem_cons.mp hw with rfl | hw
  · exact ⟨gw_in h, good_of_word h.2⟩
  · exact ⟨hw, good_of_word (List.mem_filter.mp hw).2⟩
theorem rmm_ok {lev lev' maxL : Nat} (h : Nat.ble (lev' + 1) lev = true) (h2 : Nat.ble maxL 21 = true) : (rmm lev').frames + 1 ≤ (rmm lev).frames ∧ 8 + (maxL + 11) + (rmm lev').locals ≤ (rmm lev).locals := by
  have h1 := Nat.le_of_ble_eq_true h
  have h3 := Nat.le_of_ble_eq_true h2
  constructor
  · exact h1
  · show 8 + (maxL + 11) + 40 * lev' ≤ 40 * lev
    omega
section SC
variable {β : Type} {Qf : List Sh → Gx → (β × Mm) → Array Value → State → Outcome → State → Prop} {l : Launch} {lay : List Sh} {G : Gx} {lev : Nat} {b : ByteArray} {own : String} {maxL : Nat} {ret : Option FieldType} {pc : Nat} {lv : List (Nat × Value)} {st : List Value} {M : Mm} {f : Option (β × Mm)}
variable {γ : Type} {Qc : List Sh → Gx → (γ × Mm) → Array Value → State → Outcome → State → Prop} {lev' : Nat} {y : MethodName} {b' : ByteArray} {maxL' : Nat} {ret' : Option FieldType} {av : List Value} {fc : Option (γ × Mm)} {rest : List Value} {n idx : Nat}
/-- a call at pc runs, and comes back with what the callee's program gives -/
def RunP {γ : Type} (Qc : List Sh → Gx → (γ × Mm) → Array Value → State → Outcome → State → Prop) (l : Launch) (lay : List Sh) (G : Gx) (lev : Nat) (b : ByteArray) (own : String) (maxL : Nat) (ret : Option FieldType) (pc : Nat) (lv : List (Nat × Value)) (st rest : List Value) (M : Mm) (fc : Option (γ × Mm)) (a : Array Value) : Prop :=
  ∀ rc, fc = some rc → ∀ (p : Program) (e : Env) (s : State) (m : MethodId) (args : Array Value) (below : List Frame) (meth : Method) (c : Code) (H : Heap) (locs : List Loc) (ls : Array Slot), Cx p s m args meth c lay G b own maxL ret → va_P G.1 cls (WS lay G M) H → va_S (Rg lay G) s.heap H locs → lv_has ls maxL lv →
    va_Run p l e (rmm lev) s m args below meth c H locs 0 0 0 0 (F0 m pc ls st) rest (Qc lay G rc a) (Rg lay G)
theorem s_runS (hM : Mt Qc l lay G lev' y b' maxL' ret' av M fc) (ok : okC y b' maxL' ret' n) (lk : lkS own idx y) (hlev : Nat.ble (lev' + 1) lev = true) (hn : av.length = n) (hst : st = av.reverse ++ rest) (hr8 : Nat.ble ((rest.map fun v => v.category).sum) 8 = true) (d : decode b pc = .ok (.invokestatic idx, 3)) : RunP Qc l lay G lev b own maxL ret pc lv st rest M fc av.toArray := by
  intro rc hfc p e s m args below meth c H locs ls Cc hP hS hl
  obtain ⟨hx, hb, hml, hown, hts, hr, hK, hE, hlo, hI⟩ := id Cc
  obtain ⟨k1, k2, k3, k4⟩ := ok
  exact va_runS (As := av) (rest := rest) ⟨hx, hb, hml, hown, hts⟩ (hM rc hfc hI) ⟨callB_of n hts (wds_good k1) rfl rfl rfl (hts _ (gw_in k2)) (hts _ (gw_in lk.1)) k3 (rmm_ok hlev k4), hts _ (gw_in lk.2)⟩ ⟨cP_blind, fun U hU hW => ⟨rfl, by rw [hU]; exact hP, va_K.moved hW.alike hK, Ev_move hE hS hU hW⟩⟩ rfl hn hl.1 hst (lv_room (Nat.le_of_ble_eq_true hr8)) d ⟨Nat.le_refl 0, Nat.le_refl 0⟩
theorem s_runSN {host : String} (hM : Mt Qc l lay G lev' y b' maxL' ret' av M fc) (ok : okC y b' maxL' ret' n) (lk : lkSN own idx y host) (hlev : Nat.ble (lev' + 1) lev = true) (hn : av.length = n) (hst : st = av.reverse ++ rest) (hr8 : Nat.ble ((rest.map fun v => v.category).sum) 8 = true) (d : decode b pc = .ok (.invokestatic idx, 3)) : RunP Qc l lay G lev b own maxL ret pc lv st rest M fc av.toArray := by
  intro rc hfc p e s m args below meth c H locs ls Cc hP hS hl
  obtain ⟨hx, hb, hml, hown, hts, hr, hK, hE, hlo, hI⟩ := id Cc
  obtain ⟨k1, k2, k3, k4⟩ := ok
  exact va_runSN (As := av) (rest := rest) ⟨hx, hb, hml, hown, hts⟩ (hM rc hfc hI) ⟨va_cnB n hts (wds_good k1) rfl rfl rfl (hE.1 _ lk.1) (hts _ (gw_in k2)) k3 (rmm_ok hlev k4), hts _ (gw_in lk.2), trivial⟩ ⟨cP_blind, fun U hU hW => ⟨rfl, by rw [hU]; exact hP, va_K.moved hW.alike hK, Ev_move hE hS hU hW⟩⟩ rfl hn hl.1 hst (lv_room (Nat.le_of_ble_eq_true hr8)) d ⟨Nat.le_refl 0, Nat.le_refl 0⟩
theorem s_runV {k ci N : Nat} {C : String} {T : u_T} (hc : isC lay k ci = true) (hcl : cls[ci]? = some (C, T, N)) (hM : Mt Qc l lay G lev' y b' maxL' ret' (rf G k :: av) M fc) (ok : okC y b' maxL' ret' n) (lk : lkV own idx y C) (hlev : Nat.ble (lev' + 1) lev = true) (hn : av.length = n) (hst : st = av.reverse ++ rf G k :: rest) (hr8 : Nat.ble ((rest.map fun v => v.category).sum) 8 = true) (d : decode b pc = .ok (.invokevirtual idx, 3)) : RunP Qc l lay G lev b own maxL ret pc lv st rest M fc (rf G k :: av).toArray := by
  intro rc hfc p e s m args below meth c H locs ls Cc hP hS hl
  obtain ⟨hx, hb, hml, hown, hts, hr, hK, hE, hlo, hI⟩ := id Cc
  obtain ⟨k1, k2, k3, k4⟩ := ok
  obtain ⟨fs, h1, h2⟩ := isC_spec hc
  exact va_runV (As := av) (rest := rest) (C := C) ⟨hx, hb, hml, hown, hts⟩ (hM rc hfc hI) ⟨callB_of n hts (wds_good k1) rfl rfl rfl (hts _ (gw_in k2)) (hts _ (gw_in lk.1)) k3 (rmm_ok hlev k4), hts _ (gw_in lk.2.1), hts _ (gw_in lk.2.2)⟩ ⟨cP_blind, va_recv hK hP hcl (WS_get h1), fun U hU hW => ⟨rfl, by rw [hU]; exact hP, va_K.moved hW.alike hK, Ev_move hE hS hU hW⟩⟩ rfl hn hl.1 hst (lv_room (Nat.le_of_ble_eq_true hr8)) d ⟨Nat.le_refl 0, Nat.le_refl 0⟩
theorem bd_some {x : Option (γ × Mm)} {k : γ → Mm → Option (β × Mm)} {res : β × Mm} (h : bd x k = some res) : ∃ r N, x = some (r, N) ∧ k r N = some res := by
  cases x with
  | none => cases h
  | some q => exact ⟨q.1, q.2, rfl, h⟩
theorem s_call_i {fc : Option (Int32 × Mm)} {a : Array Value} {k : Int32 → Mm → Option (β × Mm)} (hR : RunP cQi l lay G lev b own maxL ret pc lv st rest M fc a) (kk : ∀ (r : Int32) (N : Mm), Sim Qf l lay G lev b own maxL ret (pc + 3) lv (.int r :: rest) N (k r N)) : Sim Qf l lay G lev b own maxL ret pc lv st M (bd fc k) := by
  intro res hf p e s m args below meth c H locs ls Cc hP hS hl
  obtain ⟨r0, N0, h1, h2⟩ := bd_some hf
  refine va_calli (hR (r0, N0) h1 p e s m args below meth c H locs ls Cc hP hS hl) hS (fun q _ h => h) (fun q h => h) (fun r u t H1 locs1 ht hvm hw hB hz1 hk1 hS1 => ?_)
  cases hw
  have hB : va_P G.1 cls (WS lay G N0) t.heap := hB
  rw [ht] at hB
  exact kk r0 N0 res h2 p e s m args below meth c H1 locs1 ls Cc hB hS1 hl
theorem s_call_z {fc : Option (Bool × Mm)} {a : Array Value} {k : Bool → Mm → Option (β × Mm)} (hR : RunP cQz l lay G lev b own maxL ret pc lv st rest M fc a) (kk : ∀ (r : Bool) (N : Mm), Sim Qf l lay G lev b own maxL ret (pc + 3) lv (.int (bi r) :: rest) N (k r N)) : Sim Qf l lay G lev b own maxL ret pc lv st M (bd fc k) := by
  intro res hf p e s m args below meth c H locs ls Cc hP hS hl
  obtain ⟨r0, N0, h1, h2⟩ := bd_some hf
  refine va_calli (hR (r0, N0) h1 p e s m args below meth c H locs ls Cc hP hS hl) hS (fun q _ h => h) (fun q h => h) (fun r u t H1 locs1 ht hvm hw hB hz1 hk1 hS1 => ?_)
  obtain ⟨hw1, hw2⟩ := hw
  have hw2 : u = N0 := hw2
  rw [hw1]
  have hB : va_P G.1 cls (WS lay G u) t.heap := hB
  rw [hw2] at hB
  rw [ht] at hB
  exact kk r0 N0 res h2 p e s m args below meth c H1 locs1 ls Cc hB hS1 hl
theorem s_call_v {fc : Option (Unit × Mm)} {a : Array Value} {k : Unit → Mm → Option (β × Mm)} (hR : RunP cQv l lay G lev b own maxL ret pc lv st rest M fc a) (kk : ∀ (r : Unit) (N : Mm), Sim Qf l lay G lev b own maxL ret (pc + 3) lv rest N (k r N)) : Sim Qf l lay G lev b own maxL ret pc lv st M (bd fc k) := by
  intro res hf p e s m args below meth c H locs ls Cc hP hS hl
  obtain ⟨r0, N0, h1, h2⟩ := bd_some hf
  refine va_callv (hR (r0, N0) h1 p e s m args below meth c H locs ls Cc hP hS hl) hS (fun q _ h => h) (fun q h => h) (fun u t H1 locs1 ht hvm hw hB hz1 hk1 hS1 => ?_)
  have hw : u = N0 := hw
  subst hw
  have hB : va_P G.1 cls (WS lay G u) t.heap := hB
  rw [ht] at hB
  exact kk r0 u res h2 p e s m args below meth c H1 locs1 ls Cc hB hS1 hl
theorem s_call_r {fc : Option (Nat × Mm)} {a : Array Value} {k : Nat → Mm → Option (β × Mm)} (hR : RunP cQr l lay G lev b own maxL ret pc lv st rest M fc a) (kk : ∀ (r : Nat) (N : Mm), Sim Qf l lay G lev b own maxL ret (pc + 3) lv (rf G r :: rest) N (k r N)) : Sim Qf l lay G lev b own maxL ret pc lv st M (bd fc k) := by
  intro res hf p e s m args below meth c H locs ls Cc hP hS hl
  obtain ⟨r0, N0, h1, h2⟩ := bd_some hf
  refine va_callr (hR (r0, N0) h1 p e s m args below meth c H locs ls Cc hP hS hl) hS (fun q _ h => h) (fun q h => h) (fun u ra t H1 locs1 ht hvm hw hB hz1 hk1 hS1 => ?_)
  cases hw
  obtain ⟨hB1, hB2⟩ := hB
  subst hB1
  rw [ht] at hB2
  exact kk r0 N0 res h2 p e s m args below meth c H1 locs1 ls Cc hB2 hS1 hl
/-- Math.max, Math.min -/
theorem s_max {x y : Int32} (hlv : Nat.ble 1 lev = true) (hr8 : Nat.ble ((st.map fun v => v.category).sum) 20 = true) (hk : gw (.methodLink own idx Lib.Math.max.name)) (hs : gw (.static Lib.Math.max.name)) (hi : gw (.initialized "java/lang/Math")) (hc : gw (.code Lib.Math.max.name Lib.Math.max.code 2 (some .int))) (d : decode b pc = .ok (.invokestatic idx, 3)) (kk : Sim Qf l lay G lev b own maxL ret (pc + 3) lv (.int (if x < y then y else x) :: st) M f) : Sim Qf l lay G lev b own maxL ret pc lv (.int y :: .int x :: st) M f := by
  intro res hf p e s m args below meth c H locs ls Cc hP hS hl
  obtain ⟨hx, hb, hml, hown, hts, hr, hK, hE, hlo, hI⟩ := id Cc
  have h1 := Nat.le_of_ble_eq_true hlv
  have h2 := Nat.le_of_ble_eq_true hr8
  exact va_mmax hx hb (hml.trans hl.1.symm) hown (hts _ (gw_in hk)) (hts _ (gw_in hs)) (hts _ (gw_in hi)) (hts _ (gw_in hc)) h1 (by show _ ≤ 40 * lev; omega) (Nat.le_refl 0) (Nat.le_refl 0) d (kk res hf p e s m args below meth c H locs ls Cc hP hS hl)
theorem s_min {x y : Int32} (hlv : Nat.ble 1 lev = true) (hr8 : Nat.ble ((st.map fun v => v.category).sum) 20 = true) (hk : gw (.methodLink own idx Lib.Math.min.name)) (hs : gw (.static Lib.Math.min.name)) (hi : gw (.initialized "java/lang/Math")) (hc : gw (.code Lib.Math.min.name Lib.Math.min.code 2 (some .int))) (d : decode b pc = .ok (.invokestatic idx, 3)) (kk : Sim Qf l lay G lev b own maxL ret (pc + 3) lv (.int (if y < x then y else x) :: st) M f) : Sim Qf l lay G lev b own maxL ret pc lv (.int y :: .int x :: st) M f := by
  intro res hf p e s m args below meth c H locs ls Cc hP hS hl
  obtain ⟨hx, hb, hml, hown, hts, hr, hK, hE, hlo, hI⟩ := id Cc
  have h1 := Nat.le_of_ble_eq_true hlv
  have h2 := Nat.le_of_ble_eq_true hr8
  exact va_mmin hx hb (hml.trans hl.1.symm) hown (hts _ (gw_in hk)) (hts _ (gw_in hs)) (hts _ (gw_in hi)) (hts _ (gw_in hc)) h1 (by show _ ≤ 40 * lev; omega) (Nat.le_refl 0) (Nat.le_refl 0) d (kk res hf p e s m args below meth c H locs ls Cc hP hS hl)
end SC
