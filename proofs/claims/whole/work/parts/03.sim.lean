/-! THE SIMULATION: the machine follows a pure program over one memory of ints. -/
-- words that are good in a contract, words of nest mates
def gw (w : Cond) : Prop := w ∈ lw_tbl ∧ goodWord w = true
def tbG : List Cond := lw_tbl.filter goodWord
theorem gw_in {w : Cond} (h : gw w) : w ∈ tbG := List.mem_filter.mpr ⟨h.1, h.2⟩
def nw (w : Cond) : Prop := w ∈ lw_tbl ∧ (match w with | .fieldLinkNest .. => true | .methodLinkNest .. => true | _ => false) = true
-- the memory
abbrev Mm : Type := Nat → Nat → Int32
def wr (M : Mm) (k j : Nat) (v : Int32) : Mm := fun a => if a = k then upd (M k) j v else M a
def cpm (M : Mm) (k0 sp k1 dp n : Nat) : Mm := fun a => if a = k1 then va_cpy (M k0) (M k1) sp dp n else M a
abbrev Sh : Type := (Nat ⊕ (Nat × Nat × Nat × Nat)) ⊕ (Nat × List (Option Nat))
abbrev Gx : Type := va_G × (Nat → ClassId) × (Nat → Nat) × (Nat → Nat)
abbrev rf (G : Gx) (k : Nat) : Value := .ref (G.2.2.1 k)
abbrev xf (G : Gx) (k : Nat) : Value := .ref (G.2.2.2 k)
def fdv (G : Gx) (f : Nat → Int32) (j : Nat) (o : Option Nat) : Value := match o with
  | none => .int (f j)
  | some q => .ref (G.2.2.1 q)
def cel (G : Gx) (sh : Sh) (f : Nat → Int32) : va_E := match sh with
  | .inl (.inl n) => .inl (G.2.1 0, n, .inl f)
  | .inl (.inr (t, b, st, n)) => .inl (G.2.1 t, n, .inr (.inr (.inr (.inr (fun j => some (G.2.2.1 (b + st * j)))))))
  | .inr (ci, fs) => .inr (ci, fs.mapIdx (fdv G f))
def WS (lay : List Sh) (G : Gx) (M : Mm) : va_W := lay.mapIdx (fun k sh => (G.2.2.1 k, cel G sh (M k)))
theorem WS_get {lay : List Sh} {G : Gx} {M : Mm} {k : Nat} {sh : Sh} (h : lay[k]? = some sh) : (WS lay G M)[k]? = some (G.2.2.1 k, cel G sh (M k)) := by
  simp [WS, List.getElem?_mapIdx, h]
theorem WS_len {lay : List Sh} {G : Gx} {M : Mm} : (WS lay G M).length = lay.length := by simp [WS]
theorem WS_set {lay : List Sh} {G : Gx} {M : Mm} {k : Nat} {sh : Sh} (g : Nat → Int32) (h : lay[k]? = some sh) : (WS lay G M).set k (G.2.2.1 k, cel G sh g) = WS lay G (fun a => if a = k then g else M a) := by
  refine List.ext_getElem? fun i => ?_
  rw [List.getElem?_set]
  by_cases hik : k = i
  · subst hik
    have hlt : k < lay.length := (List.getElem?_eq_some_iff.mp h).1
    rw [if_pos rfl, if_pos (by rw [WS_len]; exact hlt), WS_get h, if_pos rfl]
  · rw [if_neg hik]
    simp [WS, List.getElem?_mapIdx, Ne.symm hik]
theorem fdv_set {G : Gx} {f : Nat → Int32} {fs : List (Option Nat)} {j : Nat} {v : Int32} (h : fs[j]? = some none) : (fs.mapIdx (fdv G f)).set j (.int v) = fs.mapIdx (fdv G (upd f j v)) := by
  refine List.ext_getElem? fun i => ?_
  rw [List.getElem?_set]
  by_cases hij : j = i
  · subst hij
    have hlt : j < fs.length := (List.getElem?_eq_some_iff.mp h).1
    rw [if_pos rfl, if_pos (by simpa using hlt), List.getElem?_mapIdx, h]
    simp [fdv, upd]
  · rw [if_neg hij, List.getElem?_mapIdx, List.getElem?_mapIdx]
    cases hi : fs[i]? with
    | none => rfl
    | some o => cases o <;> simp [fdv, upd, Ne.symm hij]
-- classes
abbrev cls : List vw_C := [(RX0, TX0, 4), (RX1, TX1, 3), (RX2, TX2, 3), (RX3, TX3, 7), (RX4, TX4, 2), (RX5, TX5, 2), (RX6, TX6, 6), (RX7, TX7, 15), (RX8, TX8, 5), (RX9, TX9, 9), (RX10, TX10, 26)]
abbrev tys (G : Gx) : List (ClassId × FieldType) := [(G.2.1 0, .int), (G.2.1 1, .object RX3), (G.2.1 2, .object RX5), (G.2.1 3, .object RX4)]
def kd : Nat → List Bool := fun ci => match ci with
  | 0 => [true, true, false, false]
  | 1 => [true, true, true]
  | 2 => [true, true, false]
  | 3 => [false, false, false, false, false, false, false]
  | 4 => [true, false]
  | 5 => [true, false]
  | 6 => [true, true, true, true, true, false]
  | 7 => [true, false, false, false, false, true, false, true, true, true, true, true, false, true, true]
  | 8 => [true, false, false, false, false]
  | 9 => [true, true, false, true, true, true, true, true, true]
  | 10 => [true, true, true, false, true, false, false, false, false, true, true, true, true, true, true, false, false, true, true, false, false, false, true, true, true, true]
  | _ => []
def isC (lay : List Sh) (k ci : Nat) : Bool := match lay[k]? with
  | some (.inr (c, fs)) => c == ci && (fs.map Option.isSome == kd ci)
  | _ => false
def fR (lay : List Sh) (k j : Nat) : Nat := match lay[k]? with
  | some (.inr (_, fs)) => (match fs[j]? with
    | some (some q) => q
    | _ => 0)
  | _ => 0
def isN (lay : List Sh) (k n : Nat) : Bool := match lay[k]? with
  | some (.inl (.inl m)) => m == n
  | _ => false
def aN (lay : List Sh) (k : Nat) : Nat := match lay[k]? with
  | some (.inl (.inl m)) => m
  | _ => 0
def isF (lay : List Sh) (k t b st n : Nat) : Bool := match lay[k]? with
  | some (.inl (.inr (t1, b1, s1, n1))) => t1 == t && b1 == b && s1 == st && n1 == n
  | _ => false
theorem isC_spec {lay : List Sh} {k ci : Nat} (h : isC lay k ci = true) : ∃ fs, lay[k]? = some (.inr (ci, fs)) ∧ fs.map Option.isSome = kd ci := by
  unfold isC at h
  split at h
  · rename_i c fs he
    simp only [Bool.and_eq_true, beq_iff_eq] at h
    obtain ⟨rfl, h2⟩ := h
    exact ⟨fs, he, h2⟩
  · cases h
theorem isN_spec {lay : List Sh} {k n : Nat} (h : isN lay k n = true) : lay[k]? = some (.inl (.inl n)) := by
  unfold isN at h
  split at h
  · rename_i m he
    simp only [beq_iff_eq] at h
    subst h
    exact he
  · cases h
theorem isF_spec {lay : List Sh} {k t b st n : Nat} (h : isF lay k t b st n = true) : lay[k]? = some (.inl (.inr (t, b, st, n))) := by
  unfold isF at h
  split at h
  · rename_i t1 b1 s1 n1 he
    simp only [Bool.and_eq_true, beq_iff_eq] at h
    obtain ⟨⟨⟨rfl, rfl⟩, rfl⟩, rfl⟩ := h
    exact he
  · cases h
theorem kd_int {fs : List (Option Nat)} {ci j : Nat} (h : fs.map Option.isSome = kd ci) (hj : (kd ci)[j]? = some false) : fs[j]? = some none := by
  rw [← h, List.getElem?_map] at hj
  cases hf : fs[j]? with
  | none => rw [hf] at hj; cases hj
  | some o => cases o with
    | none => rfl
    | some q => rw [hf] at hj; cases hj
theorem kd_ref {fs : List (Option Nat)} {ci j : Nat} (h : fs.map Option.isSome = kd ci) (hj : (kd ci)[j]? = some true) : ∃ q, fs[j]? = some (some q) := by
  rw [← h, List.getElem?_map] at hj
  cases hf : fs[j]? with
  | none => rw [hf] at hj; cases hj
  | some o => cases o with
    | none => rw [hf] at hj; cases hj
    | some q => exact ⟨q, rfl⟩
-- pure words of the programs
def gd {α : Type} (c : Bool) (x : Option α) : Option α := match c with
  | true => x
  | false => none
def bd {β γ : Type} (x : Option (β × Mm)) (k : β → Mm → Option (γ × Mm)) : Option (γ × Mm) := match x with
  | some (r, M) => k r M
  | none => none
def lt {α γ : Type} (x : α) (k : α → γ) : γ := k x
def inb (i : Int32) (n : Nat) : Bool := !(decide (i < 0)) && decide (i.toNatClampNeg < n)
def nz (y : Int32) : Bool := !(decide (y = 0))
def bi (b : Bool) : Int32 := match b with
  | true => 1
  | false => 0
def isb (x : Int32) : Bool := decide (x = 0) || decide (x = 1)
abbrev ix (i : Int32) : Nat := i.toNatClampNeg
def loopF {σ γ : Type} (body : (σ → Option γ) → σ → Option γ) : Nat → σ → Option γ
  | 0, _ => none
  | n + 1, s => body (loopF body n) s
theorem inb_vp {i : Int32} {n : Nat} (h : inb i n = true) : vp_in i n := by
  simp only [inb, Bool.and_eq_true, Bool.not_eq_true', decide_eq_false_iff_not, decide_eq_true_eq] at h
  rintro (q | q)
  · exact h.1 q
  · omega
theorem nz_ne {y : Int32} (h : nz y = true) : ¬ y = 0 := by
  simpa [nz] using h
-- contracts
def Rg (lay : List Sh) (G : Gx) : Nat → Prop := fun q => ∃ k, k < lay.length ∧ q = G.2.2.1 k
def Ij (lay : List Sh) (G : Gx) : Prop := ∀ i j, i < lay.length → j < lay.length → G.2.2.1 i = G.2.2.1 j → i = j
theorem WS_D {lay : List Sh} {G : Gx} {M : Mm} (h : Ij lay G) : va_D (Rg lay G) (WS lay G M) := by
  have key : ∀ (k : Nat) (q : Nat × va_E), (WS lay G M)[k]? = some q → k < lay.length ∧ q.1 = G.2.2.1 k := by
    intro k q hq
    have hlt : k < (WS lay G M).length := (List.getElem?_eq_some_iff.mp hq).1
    rw [WS_len] at hlt
    refine ⟨hlt, ?_⟩
    rw [WS_get (List.getElem?_eq_getElem hlt)] at hq
    cases hq
    rfl
  refine ⟨fun i j p q hi hj hpq => ?_, fun k q hq => ?_⟩
  · obtain ⟨a1, a2⟩ := key i p hi
    obtain ⟨b1, b2⟩ := key j q hj
    exact h i j a1 b1 (by rw [← a2, ← b2]; exact hpq)
  · obtain ⟨a1, a2⟩ := key k q hq
    exact ⟨k, a1, a2⟩
def tabA : Nat → Int32 := fun j => ([-1, 0, 0, 1, 2, 0, 0] : List Int32).getD j 0
def tabB : Nat → Int32 := fun j => ([10, 11, 12, 13, 20, 0, 0, 21, 0, 30, 0, 0, 40, 0, 41, 0, 0, 50, 0, 0, 0, 0, 60, 0, 70, 71, 0, 0] : List Int32).getD j 0
abbrev sLen : List Nat := [4, 3]
abbrev sByt : List (List Int32) := [[105, 99, 97, 109], [114, 115, 103]]
/-- what lies outside the world and never changes: links of nest mates, static rows, texts -/
def Ev (lay : List Sh) (G : Gx) (U : State) (H : Heap) : Prop :=
  (∀ w, nw w → va_Nw w U) ∧ va_Z "IceType" "ABOVE" "[I" (xf G 0) (Rg lay G) U H ∧ va_T .int (G.2.2.2 0) 7 (fun j => .int (tabA j)) (Rg lay G) U H ∧ va_Z "IceType$Voices" "BODIES" "[I" (xf G 1) (Rg lay G) U H ∧ va_T .int (G.2.2.2 1) 28 (fun j => .int (tabB j)) (Rg lay G) U H ∧ va_Z "java/lang/String" "COMPACT_STRINGS" "Z" (.int 1) (Rg lay G) U H ∧ vk_R "IceType" 150 "icam" (G.2.2.2 2) U ∧ vk_R "IceType" 152 "rsg" (G.2.2.2 3) U ∧ vk_S 2 sLen sByt (fun i => G.2.2.2 (2 + i)) (fun i => G.2.2.2 (4 + i)) (Rg lay G) U H
theorem nw_warm {w : Cond} (h : nw w) {s U : State} (hW : s.WarmedH U.vm) (hZ : va_Nw w s) : va_Nw w U := by
  obtain ⟨-, h⟩ := h
  cases w with
  | fieldLinkNest => exact va_Nw.warmF hW hZ
  | methodLinkNest => exact va_Nw.warmM hW hZ
  | _ => cases h
theorem nw_tab {w : Cond} (h : nw w) : w.onTables = true := by
  obtain ⟨-, h⟩ := h
  cases w with
  | fieldLinkNest => rfl
  | methodLinkNest => rfl
  | _ => cases h
theorem Ev_calling {lay : List Sh} {G : Gx} {U : State} {g : JFrame} {mk : MethodId} {a : Array Value} (h : Ev lay G U U.heap) : Ev lay G (U.calling g mk a) (U.calling g mk a).heap := by
  obtain ⟨h1, h2, h3, h4, h5, h6, h7, h8, h9⟩ := h
  have hv : U.vm.Alike (U.calling g mk a).vm := Vm.Alike.refl U.vm
  exact ⟨fun w hw => va_Nw.same (nw_tab hw) (u := U) rfl (h1 w hw), va_Z.moved (u := U) hv h2, va_T.moved (u := U) hv h3, va_Z.moved (u := U) hv h4, va_T.moved (u := U) hv h5, va_Z.moved (u := U) hv h6, vk_R.same (u := U) rfl h7, vk_R.same (u := U) rfl h8, vk_S.moved (u := U) hv h9⟩
theorem Ev_move {lay : List Sh} {G : Gx} {s U : State} {H : Heap} {locs : List Loc} (h : Ev lay G s s.heap) (hS : va_S (Rg lay G) s.heap H locs) (hU : U.heap = H) (hW : s.WarmedH U.vm) : Ev lay G U U.heap := by
  obtain ⟨h1, h2, h3, h4, h5, h6, h7, h8, h9⟩ := h
  have hv := hW.alike
  rw [hU]
  exact ⟨fun w hw => nw_warm hw hW (h1 w hw), (va_Z.moved hv h2).kept hS.2.1, (va_T.moved hv h3).kept hS.2.1, (va_Z.moved hv h4).kept hS.2.1, (va_T.moved hv h5).kept hS.2.1, (va_Z.moved hv h6).kept hS.2.1, vk_R.warm hW h7, vk_R.warm hW h8, (vk_S.moved hv h9).kept hS.2.1⟩
def cP (lay : List Sh) (G : Gx) (M : Mm) (av : List Value) : Array Value → State → Prop := va_Pc av (fun U => va_P G.1 cls (WS lay G M) U.heap ∧ va_K G.1 cls (tys G) U ∧ Ev lay G U U.heap)
theorem cP_blind {lay : List Sh} {G : Gx} {M : Mm} {av : List Value} : FrameBlind (cP lay G M av) := by
  intro a U g mk q
  obtain ⟨q0, q1, q2, q3⟩ := q
  exact ⟨q0, q1, va_K.moved (u := U) (U := U.calling g mk a) (Vm.Alike.refl U.vm) q2, Ev_calling q3⟩
abbrev PB (lay : List Sh) (G : Gx) : Mm → State → Prop := fun u t => va_P G.1 cls (WS lay G u) t.heap
def cQi (lay : List Sh) (G : Gx) (res : Int32 × Mm) : Array Value → State → Outcome → State → Prop := va_Qi (fun (r : Int32) (u : Mm) => (r, u) = res) (PB lay G) (Rg lay G)
def cQz (lay : List Sh) (G : Gx) (res : Bool × Mm) : Array Value → State → Outcome → State → Prop := va_Qi (fun (r : Int32) (u : Mm) => r = bi res.1 ∧ u = res.2) (PB lay G) (Rg lay G)
def cQv (lay : List Sh) (G : Gx) (res : Unit × Mm) : Array Value → State → Outcome → State → Prop := va_Qv (fun (u : Mm) => u = res.2) (PB lay G) (Rg lay G)
def cQr (lay : List Sh) (G : Gx) (res : Nat × Mm) : Array Value → State → Outcome → State → Prop := va_Qr (fun (u : Nat × Mm) => u = res) (fun u a t => a = G.2.2.1 u.1 ∧ va_P G.1 cls (WS lay G u.2) t.heap) (Rg lay G)
def rmm (lev : Nat) : Room := { frames := lev, cells := 0, slots := 0, locals := 40 * lev }
def wds (y : MethodName) (b : ByteArray) (maxL : Nat) (ret : Option FieldType) : List Cond := Cond.code y b maxL ret :: tbG
/-- a method's contract: if its pure program gives an answer, the machine gives it too -/
def Mt {β : Type} (Qf : List Sh → Gx → (β × Mm) → Array Value → State → Outcome → State → Prop) (l : Launch) (lay : List Sh) (G : Gx) (lev : Nat) (y : MethodName) (b : ByteArray) (maxL : Nat) (ret : Option FieldType) (av : List Value) (M : Mm) (f : Option (β × Mm)) : Prop :=
  ∀ res, f = some res → Ij lay G → Met l y (wds y b maxL ret) (rmm lev) (cP lay G M av) (Qf lay G res) 0 0 (Rg lay G)
/-- what stays the same in a method's run -/
def Cx (p : Program) (s : State) (m : MethodId) (args : Array Value) (meth : Method) (c : Code) (lay : List Sh) (G : Gx) (b : ByteArray) (own : String) (maxL : Nat) (ret : Option FieldType) : Prop :=
  p.tables.exec = Jvm.exec ∧ c.code = b ∧ c.maxLocals = maxL ∧ s.vm.findClass own = some m.cls ∧ (∀ w ∈ tbG, w.before args s = true) ∧ meth.sig.returnType = ret ∧ va_K G.1 cls (tys G) s ∧ Ev lay G s s.heap ∧ meth.locks = false ∧ Ij lay G
def Sim {β : Type} (Qf : List Sh → Gx → (β × Mm) → Array Value → State → Outcome → State → Prop) (l : Launch) (lay : List Sh) (G : Gx) (lev : Nat) (b : ByteArray) (own : String) (maxL : Nat) (ret : Option FieldType) (pc : Nat) (lv : List (Nat × Value)) (st : List Value) (M : Mm) (f : Option (β × Mm)) : Prop :=
  ∀ res, f = some res → ∀ (p : Program) (e : Env) (s : State) (m : MethodId) (args : Array Value) (below : List Frame) (meth : Method) (c : Code) (H : Heap) (locs : List Loc) (ls : Array Slot), Cx p s m args meth c lay G b own maxL ret → va_P G.1 cls (WS lay G M) H → va_S (Rg lay G) s.heap H locs → lv_has ls maxL lv →
    W p l e (rmm lev) s m args below meth c H locs 0 0 (MQ below (Qf lay G res) args s 0 0 (Rg lay G)) (F0 m pc ls st)
theorem Mt.of {β : Type} {Qf : List Sh → Gx → (β × Mm) → Array Value → State → Outcome → State → Prop} {l : Launch} {lay : List Sh} {G : Gx} {lev : Nat} {y : MethodName} {b : ByteArray} {maxL : Nat} {ret : Option FieldType} {av : List Value} {M : Mm} {f : Option (β × Mm)} {lv : List (Nat × Value)}
    (hy : plainName y.cls = true) (hl : lv_args 0 av = lv) (hn : Nat.ble (lg_sl av).length maxL = true) (h : Sim Qf l lay G lev b y.cls maxL ret 0 lv [] M f) : Mt Qf l lay G lev y b maxL ret av M f := by
  intro res hf hI
  refine Met.ofW (cc := b) (maxL := maxL) (ret := ret) hy rfl ?_
  intro p e s m args below meth c s₁ B hml hv
  obtain ⟨rfl, hP, hK, hE⟩ := hv
  have hts := atoms_spec (ws := wds y b maxL ret) B.pre
  have hown : s.vm.findClass y.cls = some m.cls := findClass_of_methodNamed B.named
  have he := lv_entry av (n := maxL) (Nat.le_of_ble_eq_true hn)
  rw [lg_entry_eq]
  rw [hl] at he
  exact h res hf p e s m _ below meth c s.heap [] _ ⟨B.exec, B.bytes, hml, hown, fun w hw => hts w (List.mem_cons_of_mem _ hw), B.returns, hK, hE, B.notSynchronized, hI⟩ hP va_S.rf he
