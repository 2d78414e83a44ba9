section SR
variable {β : Type} {Qf : List Sh → Gx → (β × Mm) → Array Value → State → Outcome → State → Prop} {l : Launch} {lay : List Sh} {G : Gx} {lev : Nat} {b : ByteArray} {own : String} {maxL : Nat} {ret : Option FieldType} {pc : Nat} {lv : List (Nat × Value)} {st : List Value} {M : Mm} {f : Option (β × Mm)}
theorem s_iconst {n : Int} {v : Int32} (d : decode b pc = .ok (.iconst n, 1)) (hv : Int32.ofInt n = v) (kk : Sim Qf l lay G lev b own maxL ret (pc + 1) lv (.int v :: st) M f) : Sim Qf l lay G lev b own maxL ret pc lv st M f := by
  intro res hf p e s m args below meth c H locs ls Cc hP hS hl
  obtain ⟨hx, hb, hml, hown, hts, hr, hK, hE, hlo, hI⟩ := id Cc
  exact lv_iconst hx hb d hv (kk res hf p e s m args below meth c H locs ls Cc hP hS hl)
theorem s_bipush {n : Int} {v : Int32} (d : decode b pc = .ok (.bipush n, 2)) (hv : (Int8.ofInt n).toInt32 = v) (kk : Sim Qf l lay G lev b own maxL ret (pc + 2) lv (.int v :: st) M f) : Sim Qf l lay G lev b own maxL ret pc lv st M f := by
  intro res hf p e s m args below meth c H locs ls Cc hP hS hl
  obtain ⟨hx, hb, hml, hown, hts, hr, hK, hE, hlo, hI⟩ := id Cc
  exact lv_bipush hx hb d hv (kk res hf p e s m args below meth c H locs ls Cc hP hS hl)
theorem s_sipush {n : Int} {v : Int32} (d : decode b pc = .ok (.sipush n, 3)) (hv : (Int16.ofInt n).toInt32 = v) (kk : Sim Qf l lay G lev b own maxL ret (pc + 3) lv (.int v :: st) M f) : Sim Qf l lay G lev b own maxL ret pc lv st M f := by
  intro res hf p e s m args below meth c H locs ls Cc hP hS hl
  obtain ⟨hx, hb, hml, hown, hts, hr, hK, hE, hlo, hI⟩ := id Cc
  exact lv_sipush hx hb d hv (kk res hf p e s m args below meth c H locs ls Cc hP hS hl)
theorem s_ldc {n : Nat} {v : Int32} (d : decode b pc = .ok (.ldc n, 2)) (h : gw (.constant own n v)) (kk : Sim Qf l lay G lev b own maxL ret (pc + 2) lv (.int v :: st) M f) : Sim Qf l lay G lev b own maxL ret pc lv st M f := by
  intro res hf p e s m args below meth c H locs ls Cc hP hS hl
  obtain ⟨hx, hb, hml, hown, hts, hr, hK, hE, hlo, hI⟩ := id Cc
  exact lv_ldc hx hb hown (hts _ (gw_in h)) d (kk res hf p e s m args below meth c H locs ls Cc hP hS hl)
theorem s_ldcw {n : Nat} {v : Int32} (d : decode b pc = .ok (.ldc_w n, 3)) (h : gw (.constant own n v)) (kk : Sim Qf l lay G lev b own maxL ret (pc + 3) lv (.int v :: st) M f) : Sim Qf l lay G lev b own maxL ret pc lv st M f := by
  intro res hf p e s m args below meth c H locs ls Cc hP hS hl
  obtain ⟨hx, hb, hml, hown, hts, hr, hK, hE, hlo, hI⟩ := id Cc
  exact lv_ldcw hx hb hown (hts _ (gw_in h)) d (kk res hf p e s m args below meth c H locs ls Cc hP hS hl)
theorem s_ldc2 {n : Nat} {v : Int64} (d : decode b pc = .ok (.ldc2_w n, 3)) (h : gw (.constantLong own n v)) (kk : Sim Qf l lay G lev b own maxL ret (pc + 3) lv (.long v :: st) M f) : Sim Qf l lay G lev b own maxL ret pc lv st M f := by
  intro res hf p e s m args below meth c H locs ls Cc hP hS hl
  obtain ⟨hx, hb, hml, hown, hts, hr, hK, hE, hlo, hI⟩ := id Cc
  exact lv_ldc2 hx hb hown (hts _ (gw_in h)) d (kk res hf p e s m args below meth c H locs ls Cc hP hS hl)
theorem s_ldcS0 (d : decode b pc = .ok (.ldc 150, 2)) (ho : own = "IceType") (kk : Sim Qf l lay G lev b own maxL ret (pc + 2) lv (xf G 2 :: st) M f) : Sim Qf l lay G lev b own maxL ret pc lv st M f := by
  intro res hf p e s m args below meth c H locs ls Cc hP hS hl
  obtain ⟨hx, hb, hml, hown, hts, hr, hK, hE, hlo, hI⟩ := id Cc
  subst ho
  exact va_ldcS hx hb hown hE.2.2.2.2.2.2.1 d (kk res hf p e s m args below meth c H locs ls Cc hP hS hl)
theorem s_ldcS1 (d : decode b pc = .ok (.ldc 152, 2)) (ho : own = "IceType") (kk : Sim Qf l lay G lev b own maxL ret (pc + 2) lv (xf G 3 :: st) M f) : Sim Qf l lay G lev b own maxL ret pc lv st M f := by
  intro res hf p e s m args below meth c H locs ls Cc hP hS hl
  obtain ⟨hx, hb, hml, hown, hts, hr, hK, hE, hlo, hI⟩ := id Cc
  subst ho
  exact va_ldcS hx hb hown hE.2.2.2.2.2.2.2.1 d (kk res hf p e s m args below meth c H locs ls Cc hP hS hl)
theorem s_iload_n {n : Fin 4} {i : Nat} {x : Int32} (k : Nat) (d : decode b pc = .ok (.iload_n n, 1)) (hi : (n : Nat) = i) (hk : lv[k]? = some (i, .int x)) (kk : Sim Qf l lay G lev b own maxL ret (pc + 1) lv (.int x :: st) M f) : Sim Qf l lay G lev b own maxL ret pc lv st M f := by
  intro res hf p e s m args below meth c H locs ls Cc hP hS hl
  obtain ⟨hx, hb, hml, hown, hts, hr, hK, hE, hlo, hI⟩ := id Cc
  exact lv_iload_n hx hb d hi (lv_at hl k hk) (kk res hf p e s m args below meth c H locs ls Cc hP hS hl)
theorem s_iload {i : Nat} {x : Int32} (k : Nat) (d : decode b pc = .ok (.iload i, 2)) (hk : lv[k]? = some (i, .int x)) (kk : Sim Qf l lay G lev b own maxL ret (pc + 2) lv (.int x :: st) M f) : Sim Qf l lay G lev b own maxL ret pc lv st M f := by
  intro res hf p e s m args below meth c H locs ls Cc hP hS hl
  obtain ⟨hx, hb, hml, hown, hts, hr, hK, hE, hlo, hI⟩ := id Cc
  exact lv_iload hx hb d (lv_at hl k hk) (kk res hf p e s m args below meth c H locs ls Cc hP hS hl)
theorem s_aload_n {n : Fin 4} {i : Nat} {x : Nat} (k : Nat) (d : decode b pc = .ok (.aload_n n, 1)) (hi : (n : Nat) = i) (hk : lv[k]? = some (i, .ref x)) (kk : Sim Qf l lay G lev b own maxL ret (pc + 1) lv (.ref x :: st) M f) : Sim Qf l lay G lev b own maxL ret pc lv st M f := by
  intro res hf p e s m args below meth c H locs ls Cc hP hS hl
  obtain ⟨hx, hb, hml, hown, hts, hr, hK, hE, hlo, hI⟩ := id Cc
  exact lv_aload_n hx hb d hi (lv_at hl k hk) (kk res hf p e s m args below meth c H locs ls Cc hP hS hl)
theorem s_aload {i : Nat} {x : Nat} (k : Nat) (d : decode b pc = .ok (.aload i, 2)) (hk : lv[k]? = some (i, .ref x)) (kk : Sim Qf l lay G lev b own maxL ret (pc + 2) lv (.ref x :: st) M f) : Sim Qf l lay G lev b own maxL ret pc lv st M f := by
  intro res hf p e s m args below meth c H locs ls Cc hP hS hl
  obtain ⟨hx, hb, hml, hown, hts, hr, hK, hE, hlo, hI⟩ := id Cc
  exact lv_aload hx hb d (lv_at hl k hk) (kk res hf p e s m args below meth c H locs ls Cc hP hS hl)
theorem s_lload_n {n : Fin 4} {i : Nat} {x : Int64} (k : Nat) (d : decode b pc = .ok (.lload_n n, 1)) (hi : (n : Nat) = i) (hk : lv[k]? = some (i, .long x)) (kk : Sim Qf l lay G lev b own maxL ret (pc + 1) lv (.long x :: st) M f) : Sim Qf l lay G lev b own maxL ret pc lv st M f := by
  intro res hf p e s m args below meth c H locs ls Cc hP hS hl
  obtain ⟨hx, hb, hml, hown, hts, hr, hK, hE, hlo, hI⟩ := id Cc
  exact lv_lload_n hx hb d hi (lv_at hl k hk) (kk res hf p e s m args below meth c H locs ls Cc hP hS hl)
theorem s_lload {i : Nat} {x : Int64} (k : Nat) (d : decode b pc = .ok (.lload i, 2)) (hk : lv[k]? = some (i, .long x)) (kk : Sim Qf l lay G lev b own maxL ret (pc + 2) lv (.long x :: st) M f) : Sim Qf l lay G lev b own maxL ret pc lv st M f := by
  intro res hf p e s m args below meth c H locs ls Cc hP hS hl
  obtain ⟨hx, hb, hml, hown, hts, hr, hK, hE, hlo, hI⟩ := id Cc
  exact lv_lload hx hb d (lv_at hl k hk) (kk res hf p e s m args below meth c H locs ls Cc hP hS hl)
theorem s_istore_n {n : Fin 4} {i : Nat} {x : Int32} {lv' : List (Nat × Value)} (d : decode b pc = .ok (.istore_n n, 1)) (hi : (n : Nat) = i) (hn : Nat.ble (i + 1) maxL = true) (hl' : (i, Value.int x) :: lv.filter (fun q => !(q.1 == i) && !(q.1 + 1 == i && q.2.category == 2)) = lv') (kk : Sim Qf l lay G lev b own maxL ret (pc + 1) lv' st M f) : Sim Qf l lay G lev b own maxL ret pc lv (.int x :: st) M f := by
  intro res hf p e s m args below meth c H locs ls Cc hP hS hl
  obtain ⟨hx, hb, hml, hown, hts, hr, hK, hE, hlo, hI⟩ := id Cc
  exact lv_istore_n hx hb d hi hl (Nat.le_of_ble_eq_true hn) hl' (fun ls hl => kk res hf p e s m args below meth c H locs ls Cc hP hS hl)
theorem s_istore {i : Nat} {x : Int32} {lv' : List (Nat × Value)} (d : decode b pc = .ok (.istore i, 2)) (hn : Nat.ble (i + 1) maxL = true) (hl' : (i, Value.int x) :: lv.filter (fun q => !(q.1 == i) && !(q.1 + 1 == i && q.2.category == 2)) = lv') (kk : Sim Qf l lay G lev b own maxL ret (pc + 2) lv' st M f) : Sim Qf l lay G lev b own maxL ret pc lv (.int x :: st) M f := by
  intro res hf p e s m args below meth c H locs ls Cc hP hS hl
  obtain ⟨hx, hb, hml, hown, hts, hr, hK, hE, hlo, hI⟩ := id Cc
  exact lv_istore hx hb d hl (Nat.le_of_ble_eq_true hn) hl' (fun ls hl => kk res hf p e s m args below meth c H locs ls Cc hP hS hl)
theorem s_astore_n {n : Fin 4} {i : Nat} {x : Nat} {lv' : List (Nat × Value)} (d : decode b pc = .ok (.astore_n n, 1)) (hi : (n : Nat) = i) (hn : Nat.ble (i + 1) maxL = true) (hl' : (i, Value.ref x) :: lv.filter (fun q => !(q.1 == i) && !(q.1 + 1 == i && q.2.category == 2)) = lv') (kk : Sim Qf l lay G lev b own maxL ret (pc + 1) lv' st M f) : Sim Qf l lay G lev b own maxL ret pc lv (.ref x :: st) M f := by
  intro res hf p e s m args below meth c H locs ls Cc hP hS hl
  obtain ⟨hx, hb, hml, hown, hts, hr, hK, hE, hlo, hI⟩ := id Cc
  exact lv_astore_n hx hb d hi hl (Nat.le_of_ble_eq_true hn) hl' (fun ls hl => kk res hf p e s m args below meth c H locs ls Cc hP hS hl)
theorem s_astore {i : Nat} {x : Nat} {lv' : List (Nat × Value)} (d : decode b pc = .ok (.astore i, 2)) (hn : Nat.ble (i + 1) maxL = true) (hl' : (i, Value.ref x) :: lv.filter (fun q => !(q.1 == i) && !(q.1 + 1 == i && q.2.category == 2)) = lv') (kk : Sim Qf l lay G lev b own maxL ret (pc + 2) lv' st M f) : Sim Qf l lay G lev b own maxL ret pc lv (.ref x :: st) M f := by
  intro res hf p e s m args below meth c H locs ls Cc hP hS hl
  obtain ⟨hx, hb, hml, hown, hts, hr, hK, hE, hlo, hI⟩ := id Cc
  exact lv_astore hx hb d hl (Nat.le_of_ble_eq_true hn) hl' (fun ls hl => kk res hf p e s m args below meth c H locs ls Cc hP hS hl)
theorem s_iinc {i k : Nat} {n : Int} {x v : Int32} {lv' : List (Nat × Value)} (d : decode b pc = .ok (.iinc i n, 3)) (hk : lv[k]? = some (i, .int x)) (hv : Int32.ofInt n = v) (hn : Nat.ble (i + 1) maxL = true) (hl' : (i, Value.int (x + v)) :: lv.filter (fun q => !(q.1 == i) && !(q.1 + 1 == i && q.2.category == 2)) = lv') (kk : Sim Qf l lay G lev b own maxL ret (pc + 3) lv' st M f) : Sim Qf l lay G lev b own maxL ret pc lv st M f := by
  intro res hf p e s m args below meth c H locs ls Cc hP hS hl
  obtain ⟨hx, hb, hml, hown, hts, hr, hK, hE, hlo, hI⟩ := id Cc
  exact lv_iinc hx hb d hl hk (by rw [hv]) (Nat.le_of_ble_eq_true hn) hl' (fun ls hl => kk res hf p e s m args below meth c H locs ls Cc hP hS hl)
theorem s_iadd {x y : Int32} (d : decode b pc = .ok (.iadd, 1)) (kk : Sim Qf l lay G lev b own maxL ret (pc + 1) lv (.int (x + y) :: st) M f) : Sim Qf l lay G lev b own maxL ret pc lv (.int y :: .int x :: st) M f := by
  intro res hf p e s m args below meth c H locs ls Cc hP hS hl
  obtain ⟨hx, hb, hml, hown, hts, hr, hK, hE, hlo, hI⟩ := id Cc
  exact lv_iadd hx hb d (kk res hf p e s m args below meth c H locs ls Cc hP hS hl)
theorem s_isub {x y : Int32} (d : decode b pc = .ok (.isub, 1)) (kk : Sim Qf l lay G lev b own maxL ret (pc + 1) lv (.int (x - y) :: st) M f) : Sim Qf l lay G lev b own maxL ret pc lv (.int y :: .int x :: st) M f := by
  intro res hf p e s m args below meth c H locs ls Cc hP hS hl
  obtain ⟨hx, hb, hml, hown, hts, hr, hK, hE, hlo, hI⟩ := id Cc
  exact lv_isub hx hb d (kk res hf p e s m args below meth c H locs ls Cc hP hS hl)
theorem s_imul {x y : Int32} (d : decode b pc = .ok (.imul, 1)) (kk : Sim Qf l lay G lev b own maxL ret (pc + 1) lv (.int (x * y) :: st) M f) : Sim Qf l lay G lev b own maxL ret pc lv (.int y :: .int x :: st) M f := by
  intro res hf p e s m args below meth c H locs ls Cc hP hS hl
  obtain ⟨hx, hb, hml, hown, hts, hr, hK, hE, hlo, hI⟩ := id Cc
  exact lv_imul hx hb d (kk res hf p e s m args below meth c H locs ls Cc hP hS hl)
theorem s_iand {x y : Int32} (d : decode b pc = .ok (.iand, 1)) (kk : Sim Qf l lay G lev b own maxL ret (pc + 1) lv (.int (x &&& y) :: st) M f) : Sim Qf l lay G lev b own maxL ret pc lv (.int y :: .int x :: st) M f := by
  intro res hf p e s m args below meth c H locs ls Cc hP hS hl
  obtain ⟨hx, hb, hml, hown, hts, hr, hK, hE, hlo, hI⟩ := id Cc
  exact lv_iand hx hb d (kk res hf p e s m args below meth c H locs ls Cc hP hS hl)
theorem s_ior {x y : Int32} (d : decode b pc = .ok (.ior, 1)) (kk : Sim Qf l lay G lev b own maxL ret (pc + 1) lv (.int (x ||| y) :: st) M f) : Sim Qf l lay G lev b own maxL ret pc lv (.int y :: .int x :: st) M f := by
  intro res hf p e s m args below meth c H locs ls Cc hP hS hl
  obtain ⟨hx, hb, hml, hown, hts, hr, hK, hE, hlo, hI⟩ := id Cc
  exact lv_ior hx hb d (kk res hf p e s m args below meth c H locs ls Cc hP hS hl)
theorem s_ixor {x y : Int32} (d : decode b pc = .ok (.ixor, 1)) (kk : Sim Qf l lay G lev b own maxL ret (pc + 1) lv (.int (x ^^^ y) :: st) M f) : Sim Qf l lay G lev b own maxL ret pc lv (.int y :: .int x :: st) M f := by
  intro res hf p e s m args below meth c H locs ls Cc hP hS hl
  obtain ⟨hx, hb, hml, hown, hts, hr, hK, hE, hlo, hI⟩ := id Cc
  exact lv_ixor hx hb d (kk res hf p e s m args below meth c H locs ls Cc hP hS hl)
theorem s_ishl {x y : Int32} (d : decode b pc = .ok (.ishl, 1)) (kk : Sim Qf l lay G lev b own maxL ret (pc + 1) lv (.int (x <<< (y &&& 31)) :: st) M f) : Sim Qf l lay G lev b own maxL ret pc lv (.int y :: .int x :: st) M f := by
  intro res hf p e s m args below meth c H locs ls Cc hP hS hl
  obtain ⟨hx, hb, hml, hown, hts, hr, hK, hE, hlo, hI⟩ := id Cc
  exact lv_ishl hx hb d (kk res hf p e s m args below meth c H locs ls Cc hP hS hl)
theorem s_ishr {x y : Int32} (d : decode b pc = .ok (.ishr, 1)) (kk : Sim Qf l lay G lev b own maxL ret (pc + 1) lv (.int (x >>> (y &&& 31)) :: st) M f) : Sim Qf l lay G lev b own maxL ret pc lv (.int y :: .int x :: st) M f := by
  intro res hf p e s m args below meth c H locs ls Cc hP hS hl
  obtain ⟨hx, hb, hml, hown, hts, hr, hK, hE, hlo, hI⟩ := id Cc
  exact lv_ishr hx hb d (kk res hf p e s m args below meth c H locs ls Cc hP hS hl)
theorem s_idiv {x y : Int32} (d : decode b pc = .ok (.idiv, 1)) (hne : nz y = true) (kk : Sim Qf l lay G lev b own maxL ret (pc + 1) lv (.int (x / y) :: st) M f) : Sim Qf l lay G lev b own maxL ret pc lv (.int y :: .int x :: st) M f := by
  intro res hf p e s m args below meth c H locs ls Cc hP hS hl
  obtain ⟨hx, hb, hml, hown, hts, hr, hK, hE, hlo, hI⟩ := id Cc
  exact lv_idiv hx hb d (nz_ne hne) (kk res hf p e s m args below meth c H locs ls Cc hP hS hl)
theorem s_irem {x y : Int32} (d : decode b pc = .ok (.irem, 1)) (hne : nz y = true) (kk : Sim Qf l lay G lev b own maxL ret (pc + 1) lv (.int (x - x / y * y) :: st) M f) : Sim Qf l lay G lev b own maxL ret pc lv (.int y :: .int x :: st) M f := by
  intro res hf p e s m args below meth c H locs ls Cc hP hS hl
  obtain ⟨hx, hb, hml, hown, hts, hr, hK, hE, hlo, hI⟩ := id Cc
  exact lv_irem hx hb d (nz_ne hne) (kk res hf p e s m args below meth c H locs ls Cc hP hS hl)
theorem s_ineg {x : Int32} (d : decode b pc = .ok (.ineg, 1)) (kk : Sim Qf l lay G lev b own maxL ret (pc + 1) lv (.int (-x) :: st) M f) : Sim Qf l lay G lev b own maxL ret pc lv (.int x :: st) M f := by
  intro res hf p e s m args below meth c H locs ls Cc hP hS hl
  obtain ⟨hx, hb, hml, hown, hts, hr, hK, hE, hlo, hI⟩ := id Cc
  exact lv_ineg hx hb d (kk res hf p e s m args below meth c H locs ls Cc hP hS hl)
theorem s_iushr {x y : Int32} (d : decode b pc = .ok (.iushr, 1)) (kk : Sim Qf l lay G lev b own maxL ret (pc + 1) lv (.int ((x.toUInt32 >>> (y.toUInt32 &&& Int32.toUInt32 31)).toInt32) :: st) M f) : Sim Qf l lay G lev b own maxL ret pc lv (.int y :: .int x :: st) M f := by
  intro res hf p e s m args below meth c H locs ls Cc hP hS hl
  obtain ⟨hx, hb, hml, hown, hts, hr, hK, hE, hlo, hI⟩ := id Cc
  exact lv_iushr hx hb d rfl (kk res hf p e s m args below meth c H locs ls Cc hP hS hl)
theorem s_land {x y : Int64} (d : decode b pc = .ok (.land, 1)) (kk : Sim Qf l lay G lev b own maxL ret (pc + 1) lv (.long (x &&& y) :: st) M f) : Sim Qf l lay G lev b own maxL ret pc lv (.long y :: .long x :: st) M f := by
  intro res hf p e s m args below meth c H locs ls Cc hP hS hl
  obtain ⟨hx, hb, hml, hown, hts, hr, hK, hE, hlo, hI⟩ := id Cc
  exact lv_land hx hb d (kk res hf p e s m args below meth c H locs ls Cc hP hS hl)
theorem s_lmul {x y : Int64} (d : decode b pc = .ok (.lmul, 1)) (kk : Sim Qf l lay G lev b own maxL ret (pc + 1) lv (.long (x * y) :: st) M f) : Sim Qf l lay G lev b own maxL ret pc lv (.long y :: .long x :: st) M f := by
  intro res hf p e s m args below meth c H locs ls Cc hP hS hl
  obtain ⟨hx, hb, hml, hown, hts, hr, hK, hE, hlo, hI⟩ := id Cc
  exact lv_lmul hx hb d (kk res hf p e s m args below meth c H locs ls Cc hP hS hl)
theorem s_ldiv {x y : Int64} (d : decode b pc = .ok (.ldiv, 1)) (hne : (!(decide (y = 0))) = true) (kk : Sim Qf l lay G lev b own maxL ret (pc + 1) lv (.long (x / y) :: st) M f) : Sim Qf l lay G lev b own maxL ret pc lv (.long y :: .long x :: st) M f := by
  intro res hf p e s m args below meth c H locs ls Cc hP hS hl
  obtain ⟨hx, hb, hml, hown, hts, hr, hK, hE, hlo, hI⟩ := id Cc
  exact lv_ldiv hx hb d (by simpa using hne) (kk res hf p e s m args below meth c H locs ls Cc hP hS hl)
theorem s_lushr {x : Int64} {y : Int32} (d : decode b pc = .ok (.lushr, 1)) (kk : Sim Qf l lay G lev b own maxL ret (pc + 1) lv (.long ((x.toUInt64 >>> (y.toInt64.toUInt64 &&& Int64.toUInt64 63)).toInt64) :: st) M f) : Sim Qf l lay G lev b own maxL ret pc lv (.int y :: .long x :: st) M f := by
  intro res hf p e s m args below meth c H locs ls Cc hP hS hl
  obtain ⟨hx, hb, hml, hown, hts, hr, hK, hE, hlo, hI⟩ := id Cc
  exact lv_lushr hx hb d rfl (kk res hf p e s m args below meth c H locs ls Cc hP hS hl)
theorem s_lshr {x : Int64} {y : Int32} (d : decode b pc = .ok (.lshr, 1)) (kk : Sim Qf l lay G lev b own maxL ret (pc + 1) lv (.long (x >>> (y.toInt64 &&& 63)) :: st) M f) : Sim Qf l lay G lev b own maxL ret pc lv (.int y :: .long x :: st) M f := by
  intro res hf p e s m args below meth c H locs ls Cc hP hS hl
  obtain ⟨hx, hb, hml, hown, hts, hr, hK, hE, hlo, hI⟩ := id Cc
  exact lv_lshr hx hb d rfl (kk res hf p e s m args below meth c H locs ls Cc hP hS hl)
theorem s_i2l {x : Int32} (d : decode b pc = .ok (.i2l, 1)) (kk : Sim Qf l lay G lev b own maxL ret (pc + 1) lv (.long x.toInt64 :: st) M f) : Sim Qf l lay G lev b own maxL ret pc lv (.int x :: st) M f := by
  intro res hf p e s m args below meth c H locs ls Cc hP hS hl
  obtain ⟨hx, hb, hml, hown, hts, hr, hK, hE, hlo, hI⟩ := id Cc
  exact lv_i2l hx hb d rfl (kk res hf p e s m args below meth c H locs ls Cc hP hS hl)
theorem s_l2i {x : Int64} (d : decode b pc = .ok (.l2i, 1)) (kk : Sim Qf l lay G lev b own maxL ret (pc + 1) lv (.int x.toInt32 :: st) M f) : Sim Qf l lay G lev b own maxL ret pc lv (.long x :: st) M f := by
  intro res hf p e s m args below meth c H locs ls Cc hP hS hl
  obtain ⟨hx, hb, hml, hown, hts, hr, hK, hE, hlo, hI⟩ := id Cc
  exact lv_l2i hx hb d rfl (kk res hf p e s m args below meth c H locs ls Cc hP hS hl)
theorem s_i2b {x : Int32} (d : decode b pc = .ok (.i2b, 1)) (kk : Sim Qf l lay G lev b own maxL ret (pc + 1) lv (.int (x.toInt8.toInt32) :: st) M f) : Sim Qf l lay G lev b own maxL ret pc lv (.int x :: st) M f := by
  intro res hf p e s m args below meth c H locs ls Cc hP hS hl
  obtain ⟨hx, hb, hml, hown, hts, hr, hK, hE, hlo, hI⟩ := id Cc
  exact lv_i2b hx hb d rfl (kk res hf p e s m args below meth c H locs ls Cc hP hS hl)
theorem s_i2s {x : Int32} (d : decode b pc = .ok (.i2s, 1)) (kk : Sim Qf l lay G lev b own maxL ret (pc + 1) lv (.int (x.toInt16.toInt32) :: st) M f) : Sim Qf l lay G lev b own maxL ret pc lv (.int x :: st) M f := by
  intro res hf p e s m args below meth c H locs ls Cc hP hS hl
  obtain ⟨hx, hb, hml, hown, hts, hr, hK, hE, hlo, hI⟩ := id Cc
  exact lv_i2s hx hb d rfl (kk res hf p e s m args below meth c H locs ls Cc hP hS hl)
theorem s_i2c {x : Int32} (d : decode b pc = .ok (.i2c, 1)) (kk : Sim Qf l lay G lev b own maxL ret (pc + 1) lv (.int ((x.toUInt32 % 65536).toInt32) :: st) M f) : Sim Qf l lay G lev b own maxL ret pc lv (.int x :: st) M f := by
  intro res hf p e s m args below meth c H locs ls Cc hP hS hl
  obtain ⟨hx, hb, hml, hown, hts, hr, hK, hE, hlo, hI⟩ := id Cc
  exact lv_i2c hx hb d rfl (kk res hf p e s m args below meth c H locs ls Cc hP hS hl)
theorem s_dup {v : Value} (d : decode b pc = .ok (.dup, 1)) (hc : v.category = 1) (kk : Sim Qf l lay G lev b own maxL ret (pc + 1) lv (v :: v :: st) M f) : Sim Qf l lay G lev b own maxL ret pc lv (v :: st) M f := by
  intro res hf p e s m args below meth c H locs ls Cc hP hS hl
  obtain ⟨hx, hb, hml, hown, hts, hr, hK, hE, hlo, hI⟩ := id Cc
  exact lv_dup hx hb d hc (kk res hf p e s m args below meth c H locs ls Cc hP hS hl)
theorem s_pop {v : Value} (d : decode b pc = .ok (.pop, 1)) (hc : v.category = 1) (kk : Sim Qf l lay G lev b own maxL ret (pc + 1) lv st M f) : Sim Qf l lay G lev b own maxL ret pc lv (v :: st) M f := by
  intro res hf p e s m args below meth c H locs ls Cc hP hS hl
  obtain ⟨hx, hb, hml, hown, hts, hr, hK, hE, hlo, hI⟩ := id Cc
  exact lv_pop hx hb d hc (kk res hf p e s m args below meth c H locs ls Cc hP hS hl)
theorem s_dup2 {v w : Value} (d : decode b pc = .ok (.dup2, 1)) (hc : v.category = 1) (hd : w.category = 1) (kk : Sim Qf l lay G lev b own maxL ret (pc + 1) lv (v :: w :: v :: w :: st) M f) : Sim Qf l lay G lev b own maxL ret pc lv (v :: w :: st) M f := by
  intro res hf p e s m args below meth c H locs ls Cc hP hS hl
  obtain ⟨hx, hb, hml, hown, hts, hr, hK, hE, hlo, hI⟩ := id Cc
  exact lv_dup2_11 hx hb d hc hd (kk res hf p e s m args below meth c H locs ls Cc hP hS hl)
theorem s_ifeq {x : Int32} {off : Int} {tgt : Nat} {f1 f2 : Option (β × Mm)} (d : decode b pc = .ok (.ifCond .eq off, 3)) (ht : (pc : Int) + off = (tgt : Int)) (kt : Sim Qf l lay G lev b own maxL ret tgt lv st M f1) (kf : Sim Qf l lay G lev b own maxL ret (pc + 3) lv st M f2) : Sim Qf l lay G lev b own maxL ret pc lv (.int x :: st) M (if x = 0 then f1 else f2) := by
  intro res hf p e s m args below meth c H locs ls Cc hP hS hl
  obtain ⟨hx, hb, hml, hown, hts, hr, hK, hE, hlo, hI⟩ := id Cc
  refine lv_if_eq hx hb d ht (fun h => kt res ?_ p e s m args below meth c H locs ls Cc hP hS hl) (fun h => kf res ?_ p e s m args below meth c H locs ls Cc hP hS hl)
  · rw [if_pos h] at hf; exact hf
  · rw [if_neg h] at hf; exact hf
theorem s_ifne {x : Int32} {off : Int} {tgt : Nat} {f1 f2 : Option (β × Mm)} (d : decode b pc = .ok (.ifCond .ne off, 3)) (ht : (pc : Int) + off = (tgt : Int)) (kt : Sim Qf l lay G lev b own maxL ret tgt lv st M f1) (kf : Sim Qf l lay G lev b own maxL ret (pc + 3) lv st M f2) : Sim Qf l lay G lev b own maxL ret pc lv (.int x :: st) M (if x = 0 then f2 else f1) := by
  intro res hf p e s m args below meth c H locs ls Cc hP hS hl
  obtain ⟨hx, hb, hml, hown, hts, hr, hK, hE, hlo, hI⟩ := id Cc
  refine lv_if_ne hx hb d ht (fun h => kt res ?_ p e s m args below meth c H locs ls Cc hP hS hl) (fun h => kf res ?_ p e s m args below meth c H locs ls Cc hP hS hl)
  · rw [if_neg h] at hf; exact hf
  · rw [if_pos h] at hf; exact hf
theorem s_iflt {x : Int32} {off : Int} {tgt : Nat} {f1 f2 : Option (β × Mm)} (d : decode b pc = .ok (.ifCond .lt off, 3)) (ht : (pc : Int) + off = (tgt : Int)) (kt : Sim Qf l lay G lev b own maxL ret tgt lv st M f1) (kf : Sim Qf l lay G lev b own maxL ret (pc + 3) lv st M f2) : Sim Qf l lay G lev b own maxL ret pc lv (.int x :: st) M (if x < 0 then f1 else f2) := by
  intro res hf p e s m args below meth c H locs ls Cc hP hS hl
  obtain ⟨hx, hb, hml, hown, hts, hr, hK, hE, hlo, hI⟩ := id Cc
  refine lv_if_lt hx hb d ht (fun h => kt res ?_ p e s m args below meth c H locs ls Cc hP hS hl) (fun h => kf res ?_ p e s m args below meth c H locs ls Cc hP hS hl)
  · rw [if_pos h] at hf; exact hf
  · rw [if_neg h] at hf; exact hf
theorem s_ifge {x : Int32} {off : Int} {tgt : Nat} {f1 f2 : Option (β × Mm)} (d : decode b pc = .ok (.ifCond .ge off, 3)) (ht : (pc : Int) + off = (tgt : Int)) (kt : Sim Qf l lay G lev b own maxL ret tgt lv st M f1) (kf : Sim Qf l lay G lev b own maxL ret (pc + 3) lv st M f2) : Sim Qf l lay G lev b own maxL ret pc lv (.int x :: st) M (if 0 ≤ x then f1 else f2) := by
  intro res hf p e s m args below meth c H locs ls Cc hP hS hl
  obtain ⟨hx, hb, hml, hown, hts, hr, hK, hE, hlo, hI⟩ := id Cc
  refine lv_if_ge hx hb d ht (fun h => kt res ?_ p e s m args below meth c H locs ls Cc hP hS hl) (fun h => kf res ?_ p e s m args below meth c H locs ls Cc hP hS hl)
  · rw [if_pos h] at hf; exact hf
  · rw [if_neg h] at hf; exact hf
theorem s_ifgt {x : Int32} {off : Int} {tgt : Nat} {f1 f2 : Option (β × Mm)} (d : decode b pc = .ok (.ifCond .gt off, 3)) (ht : (pc : Int) + off = (tgt : Int)) (kt : Sim Qf l lay G lev b own maxL ret tgt lv st M f1) (kf : Sim Qf l lay G lev b own maxL ret (pc + 3) lv st M f2) : Sim Qf l lay G lev b own maxL ret pc lv (.int x :: st) M (if 0 < x then f1 else f2) := by
  intro res hf p e s m args below meth c H locs ls Cc hP hS hl
  obtain ⟨hx, hb, hml, hown, hts, hr, hK, hE, hlo, hI⟩ := id Cc
  refine lv_if_gt hx hb d ht (fun h => kt res ?_ p e s m args below meth c H locs ls Cc hP hS hl) (fun h => kf res ?_ p e s m args below meth c H locs ls Cc hP hS hl)
  · rw [if_pos h] at hf; exact hf
  · rw [if_neg h] at hf; exact hf
theorem s_ifle {x : Int32} {off : Int} {tgt : Nat} {f1 f2 : Option (β × Mm)} (d : decode b pc = .ok (.ifCond .le off, 3)) (ht : (pc : Int) + off = (tgt : Int)) (kt : Sim Qf l lay G lev b own maxL ret tgt lv st M f1) (kf : Sim Qf l lay G lev b own maxL ret (pc + 3) lv st M f2) : Sim Qf l lay G lev b own maxL ret pc lv (.int x :: st) M (if x ≤ 0 then f1 else f2) := by
  intro res hf p e s m args below meth c H locs ls Cc hP hS hl
  obtain ⟨hx, hb, hml, hown, hts, hr, hK, hE, hlo, hI⟩ := id Cc
  refine lv_if_le hx hb d ht (fun h => kt res ?_ p e s m args below meth c H locs ls Cc hP hS hl) (fun h => kf res ?_ p e s m args below meth c H locs ls Cc hP hS hl)
  · rw [if_pos h] at hf; exact hf
  · rw [if_neg h] at hf; exact hf
theorem s_icmpeq {x y : Int32} {off : Int} {tgt : Nat} {f1 f2 : Option (β × Mm)} (d : decode b pc = .ok (.if_icmp .eq off, 3)) (ht : (pc : Int) + off = (tgt : Int)) (kt : Sim Qf l lay G lev b own maxL ret tgt lv st M f1) (kf : Sim Qf l lay G lev b own maxL ret (pc + 3) lv st M f2) : Sim Qf l lay G lev b own maxL ret pc lv (.int y :: .int x :: st) M (if x = y then f1 else f2) := by
  intro res hf p e s m args below meth c H locs ls Cc hP hS hl
  obtain ⟨hx, hb, hml, hown, hts, hr, hK, hE, hlo, hI⟩ := id Cc
  refine lv_icmp_eq hx hb d ht (fun h => kt res ?_ p e s m args below meth c H locs ls Cc hP hS hl) (fun h => kf res ?_ p e s m args below meth c H locs ls Cc hP hS hl)
  · rw [if_pos h] at hf; exact hf
  · rw [if_neg h] at hf; exact hf
theorem s_icmpne {x y : Int32} {off : Int} {tgt : Nat} {f1 f2 : Option (β × Mm)} (d : decode b pc = .ok (.if_icmp .ne off, 3)) (ht : (pc : Int) + off = (tgt : Int)) (kt : Sim Qf l lay G lev b own maxL ret tgt lv st M f1) (kf : Sim Qf l lay G lev b own maxL ret (pc + 3) lv st M f2) : Sim Qf l lay G lev b own maxL ret pc lv (.int y :: .int x :: st) M (if x = y then f2 else f1) := by
  intro res hf p e s m args below meth c H locs ls Cc hP hS hl
  obtain ⟨hx, hb, hml, hown, hts, hr, hK, hE, hlo, hI⟩ := id Cc
  refine lv_icmp_ne hx hb d ht (fun h => kt res ?_ p e s m args below meth c H locs ls Cc hP hS hl) (fun h => kf res ?_ p e s m args below meth c H locs ls Cc hP hS hl)
  · rw [if_neg h] at hf; exact hf
  · rw [if_pos h] at hf; exact hf
theorem s_icmplt {x y : Int32} {off : Int} {tgt : Nat} {f1 f2 : Option (β × Mm)} (d : decode b pc = .ok (.if_icmp .lt off, 3)) (ht : (pc : Int) + off = (tgt : Int)) (kt : Sim Qf l lay G lev b own maxL ret tgt lv st M f1) (kf : Sim Qf l lay G lev b own maxL ret (pc + 3) lv st M f2) : Sim Qf l lay G lev b own maxL ret pc lv (.int y :: .int x :: st) M (if x < y then f1 else f2) := by
  intro res hf p e s m args below meth c H locs ls Cc hP hS hl
  obtain ⟨hx, hb, hml, hown, hts, hr, hK, hE, hlo, hI⟩ := id Cc
  refine lv_icmp_lt hx hb d ht (fun h => kt res ?_ p e s m args below meth c H locs ls Cc hP hS hl) (fun h => kf res ?_ p e s m args below meth c H locs ls Cc hP hS hl)
  · rw [if_pos h] at hf; exact hf
  · rw [if_neg h] at hf; exact hf
theorem s_icmpge {x y : Int32} {off : Int} {tgt : Nat} {f1 f2 : Option (β × Mm)} (d : decode b pc = .ok (.if_icmp .ge off, 3)) (ht : (pc : Int) + off = (tgt : Int)) (kt : Sim Qf l lay G lev b own maxL ret tgt lv st M f1) (kf : Sim Qf l lay G lev b own maxL ret (pc + 3) lv st M f2) : Sim Qf l lay G lev b own maxL ret pc lv (.int y :: .int x :: st) M (if y ≤ x then f1 else f2) := by
  intro res hf p e s m args below meth c H locs ls Cc hP hS hl
  obtain ⟨hx, hb, hml, hown, hts, hr, hK, hE, hlo, hI⟩ := id Cc
  refine lv_icmp_ge hx hb d ht (fun h => kt res ?_ p e s m args below meth c H locs ls Cc hP hS hl) (fun h => kf res ?_ p e s m args below meth c H locs ls Cc hP hS hl)
  · rw [if_pos h] at hf; exact hf
  · rw [if_neg h] at hf; exact hf
theorem s_icmpgt {x y : Int32} {off : Int} {tgt : Nat} {f1 f2 : Option (β × Mm)} (d : decode b pc = .ok (.if_icmp .gt off, 3)) (ht : (pc : Int) + off = (tgt : Int)) (kt : Sim Qf l lay G lev b own maxL ret tgt lv st M f1) (kf : Sim Qf l lay G lev b own maxL ret (pc + 3) lv st M f2) : Sim Qf l lay G lev b own maxL ret pc lv (.int y :: .int x :: st) M (if y < x then f1 else f2) := by
  intro res hf p e s m args below meth c H locs ls Cc hP hS hl
  obtain ⟨hx, hb, hml, hown, hts, hr, hK, hE, hlo, hI⟩ := id Cc
  refine lv_icmp_gt hx hb d ht (fun h => kt res ?_ p e s m args below meth c H locs ls Cc hP hS hl) (fun h => kf res ?_ p e s m args below meth c H locs ls Cc hP hS hl)
  · rw [if_pos h] at hf; exact hf
  · rw [if_neg h] at hf; exact hf
theorem s_icmple {x y : Int32} {off : Int} {tgt : Nat} {f1 f2 : Option (β × Mm)} (d : decode b pc = .ok (.if_icmp .le off, 3)) (ht : (pc : Int) + off = (tgt : Int)) (kt : Sim Qf l lay G lev b own maxL ret tgt lv st M f1) (kf : Sim Qf l lay G lev b own maxL ret (pc + 3) lv st M f2) : Sim Qf l lay G lev b own maxL ret pc lv (.int y :: .int x :: st) M (if x ≤ y then f1 else f2) := by
  intro res hf p e s m args below meth c H locs ls Cc hP hS hl
  obtain ⟨hx, hb, hml, hown, hts, hr, hK, hE, hlo, hI⟩ := id Cc
  refine lv_icmp_le hx hb d ht (fun h => kt res ?_ p e s m args below meth c H locs ls Cc hP hS hl) (fun h => kf res ?_ p e s m args below meth c H locs ls Cc hP hS hl)
  · rw [if_pos h] at hf; exact hf
  · rw [if_neg h] at hf; exact hf
theorem s_ifeqB {r : Bool} {off : Int} {tgt : Nat} {f1 f2 : Option (β × Mm)} (d : decode b pc = .ok (.ifCond .eq off, 3)) (ht : (pc : Int) + off = (tgt : Int)) (kt : Sim Qf l lay G lev b own maxL ret tgt lv st M f1) (kf : Sim Qf l lay G lev b own maxL ret (pc + 3) lv st M f2) : Sim Qf l lay G lev b own maxL ret pc lv (.int (bi r) :: st) M (if r = true then f2 else f1) := by
  cases r with
  | true => exact fun res hf => s_ifeq (f1 := f1) (f2 := f2) d ht kt kf res (by rw [if_neg (by decide)]; exact hf)
  | false => exact fun res hf => s_ifeq (f1 := f1) (f2 := f2) d ht kt kf res (by rw [if_pos (by decide)]; exact hf)
theorem s_ifneB {r : Bool} {off : Int} {tgt : Nat} {f1 f2 : Option (β × Mm)} (d : decode b pc = .ok (.ifCond .ne off, 3)) (ht : (pc : Int) + off = (tgt : Int)) (kt : Sim Qf l lay G lev b own maxL ret tgt lv st M f1) (kf : Sim Qf l lay G lev b own maxL ret (pc + 3) lv st M f2) : Sim Qf l lay G lev b own maxL ret pc lv (.int (bi r) :: st) M (if r = true then f1 else f2) := by
  cases r with
  | true => exact fun res hf => s_ifne (f1 := f1) (f2 := f2) d ht kt kf res (by rw [if_neg (by decide)]; exact hf)
  | false => exact fun res hf => s_ifne (f1 := f1) (f2 := f2) d ht kt kf res (by rw [if_pos (by decide)]; exact hf)
theorem s_goto {off : Int} {tgt : Nat} (d : decode b pc = .ok (.goto off, 3)) (ht : (pc : Int) + off = (tgt : Int)) (kk : Sim Qf l lay G lev b own maxL ret tgt lv st M f) : Sim Qf l lay G lev b own maxL ret pc lv st M f := by
  intro res hf p e s m args below meth c H locs ls Cc hP hS hl
  obtain ⟨hx, hb, hml, hown, hts, hr, hK, hE, hlo, hI⟩ := id Cc
  exact lv_goto hx hb d ht (kk res hf p e s m args below meth c H locs ls Cc hP hS hl)
/-- where a lookup of x goes, the program f going on there -/
def LK {β : Type} (Qf : List Sh → Gx → (β × Mm) → Array Value → State → Outcome → State → Prop) (l : Launch) (lay : List Sh) (G : Gx) (lev : Nat) (b : ByteArray) (own : String) (maxL : Nat) (ret : Option FieldType) (pc : Nat) (lv : List (Nat × Value)) (st : List Value) (M : Mm) (x : Int32) (ps : List (Int × Int)) (dflt : Int) (f : Option (β × Mm)) : Prop :=
  ∀ tgt : Nat, (pc : Int) + Op.lookupswitch.offset ps dflt x.toInt = (tgt : Int) → Sim Qf l lay G lev b own maxL ret tgt lv st M f
theorem lk_cons {x k : Int32} {a o d : Int} {r : List (Int × Int)} {tgt : Nat} {f1 f2 : Option (β × Mm)} (hk : k.toInt = a) (ht : (pc : Int) + o = (tgt : Int)) (h1 : Sim Qf l lay G lev b own maxL ret tgt lv st M f1) (h2 : LK Qf l lay G lev b own maxL ret pc lv st M x r d f2) : LK Qf l lay G lev b own maxL ret pc lv st M x ((a, o) :: r) d (if x = k then f1 else f2) := by
  intro t2 h
  by_cases hx : x = k
  · rw [if_pos hx]
    have e : Op.lookupswitch.offset ((a, o) :: r) d x.toInt = o := by
      rw [hx, hk]; simp [Op.lookupswitch.offset]
    rw [e] at h
    have : tgt = t2 := by omega
    subst this
    exact h1
  · rw [if_neg hx]
    rw [lv_osw hx hk] at h
    exact h2 t2 h
theorem lk_nil {x : Int32} {d : Int} {tgt : Nat} (ht : (pc : Int) + d = (tgt : Int)) (h : Sim Qf l lay G lev b own maxL ret tgt lv st M f) : LK Qf l lay G lev b own maxL ret pc lv st M x [] d f := by
  intro t2 h2
  have e : Op.lookupswitch.offset [] d x.toInt = d := by simp [Op.lookupswitch.offset]
  rw [e] at h2
  have : tgt = t2 := by omega
  subst this
  exact h
theorem s_lookup {dflt : Int} {ps : Array (Int × Int)} {len tgt : Nat} {x : Int32} (d : decode b pc = .ok (.lookupswitch dflt ps, len)) (hp : (ps.toList.zip (ps.toList.drop 1)).all (fun (a, next) => a.1 < next.1) = true) (hpos : ps.toList.all (fun a => decide (0 ≤ (pc : Int) + a.2)) = true) (hd : (pc : Int) + dflt = (tgt : Int)) (kk : LK Qf l lay G lev b own maxL ret pc lv st M x ps.toList dflt f) : Sim Qf l lay G lev b own maxL ret pc lv (.int x :: st) M f := by
  intro res hf p e s m args below meth c H locs ls Cc hP hS hl
  obtain ⟨hx, hb, hml, hown, hts, hr, hK, hE, hlo, hI⟩ := id Cc
  have hoff : ∃ t : Nat, (pc : Int) + Op.lookupswitch.offset ps.toList dflt x.toInt = (t : Int) := by
    generalize ps.toList = L at hpos
    clear hp kk
    induction L with
    | nil => exact ⟨tgt, by simpa [Op.lookupswitch.offset] using hd⟩
    | cons q r ih =>
      obtain ⟨a, o⟩ := q
      simp only [List.all_cons, Bool.and_eq_true, decide_eq_true_eq] at hpos
      by_cases h : x.toInt = a
      · refine ⟨((pc : Int) + o).toNat, ?_⟩
        have e : Op.lookupswitch.offset ((a, o) :: r) dflt x.toInt = o := by rw [h]; simp [Op.lookupswitch.offset]
        rw [e]; omega
      · obtain ⟨t, ht⟩ := ih hpos.2
        refine ⟨t, ?_⟩
        have e : Op.lookupswitch.offset ((a, o) :: r) dflt x.toInt = Op.lookupswitch.offset r dflt x.toInt := by
          simp only [Op.lookupswitch.offset]
          first | rw [if_neg (fun z => h z.symm)] | rw [if_neg h] | (split <;> first | rfl | (exfalso; simp_all))
        rw [e]; exact ht
  obtain ⟨t, ht⟩ := hoff
  exact lv_lookup hx hb d hp rfl ht (kk t ht res hf p e s m args below meth c H locs ls Cc hP hS hl)
/-- the offsets of a table as pairs -/
def tbp : Int → List Int → List (Int × Int)
  | _, [] => []
  | lo, o :: r => (lo, o) :: tbp (lo + 1) r
theorem tbp_out {x d : Int} : ∀ (offs : List Int) (lo : Int), (x < lo ∨ lo + offs.length ≤ x) → Op.lookupswitch.offset (tbp lo offs) d x = d
  | [], lo, _ => by simp [tbp, Op.lookupswitch.offset]
  | o :: r, lo, h => by
    have hne : ¬ x = lo := by simp only [List.length_cons] at h; omega
    have ih := tbp_out (x := x) (d := d) r (lo + 1) (by simp only [List.length_cons] at h; omega)
    simp only [tbp, Op.lookupswitch.offset]
    first | (rw [if_neg (fun z => hne z.symm)]; exact ih) | (rw [if_neg hne]; exact ih) | (split <;> first | exact ih | (exfalso; simp_all))
theorem tbp_in {x d o : Int} : ∀ (offs : List Int) (lo : Int), ¬ x < lo → offs[(x - lo).toNat]? = some o → Op.lookupswitch.offset (tbp lo offs) d x = o
  | [], lo, _, h => by simp at h
  | q :: r, lo, h1, h => by
    by_cases hx : x = lo
    · subst hx
      have e : (x - x).toNat = 0 := by omega
      rw [e] at h
      simp only [List.getElem?_cons_zero, Option.some.injEq] at h
      subst h
      simp [tbp, Op.lookupswitch.offset]
    · have e : (x - lo).toNat = (x - (lo + 1)).toNat + 1 := by omega
      rw [e, List.getElem?_cons_succ] at h
      have ih := tbp_in (x := x) (d := d) (o := o) r (lo + 1) (by omega) h
      simp only [tbp, Op.lookupswitch.offset]
      first | (rw [if_neg (fun z => hx z.symm)]; exact ih) | (rw [if_neg hx]; exact ih) | (split <;> first | exact ih | (exfalso; simp_all))
theorem s_table {dflt lo hi : Int} {offs : Array Int} {len tgt : Nat} {x : Int32} (d : decode b pc = .ok (.tableswitch dflt lo hi offs, len)) (hh : hi + 1 = lo + offs.toList.length) (hpos : offs.toList.all (fun a => decide (0 ≤ (pc : Int) + a)) = true) (hd : (pc : Int) + dflt = (tgt : Int)) (kk : LK Qf l lay G lev b own maxL ret pc lv st M x (tbp lo offs.toList) dflt f) : Sim Qf l lay G lev b own maxL ret pc lv (.int x :: st) M f := by
  intro res hf p e s m args below meth c H locs ls Cc hP hS hl
  obtain ⟨hx, hb, hml, hown, hts, hr, hK, hE, hlo, hI⟩ := id Cc
  by_cases h1 : x.toInt < lo ∨ hi < x.toInt
  · have eo := tbp_out (x := x.toInt) (d := dflt) offs.toList lo (by omega)
    exact lv_tableOut hx hb d h1 hd (kk tgt (by rw [eo]; exact hd) res hf p e s m args below meth c H locs ls Cc hP hS hl)
  · have h2 : ¬ x.toInt < lo := fun z => h1 (Or.inl z)
    have h3 : ¬ hi < x.toInt := fun z => h1 (Or.inr z)
    have hlt : (x.toInt - lo).toNat < offs.toList.length := by omega
    have hget : offs[(x.toInt - lo).toNat]? = some (offs.toList[(x.toInt - lo).toNat]) := by
      rw [← Array.getElem?_toList, List.getElem?_eq_getElem hlt]
    have hmem := List.all_eq_true.mp hpos _ (List.getElem_mem hlt)
    simp only [decide_eq_true_eq] at hmem
    have eo := tbp_in (d := dflt) offs.toList lo h2 (List.getElem?_eq_getElem hlt)
    exact lv_tableIn (tgt := ((pc : Int) + offs.toList[(x.toInt - lo).toNat]).toNat) hx hb d h2 h3 hget (by omega) (kk _ (by rw [eo]; omega) res hf p e s m args below meth c H locs ls Cc hP hS hl)
theorem s_getI {ci j k idx n : Nat} {C : String} {T : u_T} (hc : isC lay k ci = true) (hcl : cls[ci]? = some (C, T, n)) (hin : ∀ w ∈ u_ws C T n, w ∈ tbG) (hj : (kd ci)[j]? = some false) (hjn : Nat.ble (j + 1) n = true) (hsm : (T j).1 = C) (d : decode b pc = .ok (.getfield idx, 3)) (hk : gw (.fieldLink own idx C (T j).2.1 (T j).2.2.1)) (kk : Sim Qf l lay G lev b own maxL ret (pc + 3) lv (.int (M k j) :: st) M f) : Sim Qf l lay G lev b own maxL ret pc lv (rf G k :: st) M f := by
  intro res hf p e s m args below meth c H locs ls Cc hP hS hl
  obtain ⟨hx, hb, hml, hown, hts, hr, hK, hE, hlo, hI⟩ := id Cc
  obtain ⟨fs, h1, h2⟩ := isC_spec hc
  have h3 := kd_int h2 hj
  exact va_get (D := G.1) (cl := cls) (C := C) (T := T) (N := n) hx hb hts hin hown hK hP k (WS_get h1) hcl j (Nat.le_of_ble_eq_true hjn) (hts _ (gw_in hk)) (fun _ z => by rw [hsm] at z; exact z) (v := .int (M k j)) (by rw [List.getElem?_mapIdx, h3]; rfl) d (kk res hf p e s m args below meth c H locs ls Cc hP hS hl)
theorem s_getR {ci j k idx n q : Nat} {C : String} {T : u_T} (hc : isC lay k ci = true) (hq : fR lay k j = q) (hcl : cls[ci]? = some (C, T, n)) (hin : ∀ w ∈ u_ws C T n, w ∈ tbG) (hj : (kd ci)[j]? = some true) (hjn : Nat.ble (j + 1) n = true) (hsm : (T j).1 = C) (d : decode b pc = .ok (.getfield idx, 3)) (hk : gw (.fieldLink own idx C (T j).2.1 (T j).2.2.1)) (kk : Sim Qf l lay G lev b own maxL ret (pc + 3) lv (rf G q :: st) M f) : Sim Qf l lay G lev b own maxL ret pc lv (rf G k :: st) M f := by
  intro res hf p e s m args below meth c H locs ls Cc hP hS hl
  obtain ⟨hx, hb, hml, hown, hts, hr, hK, hE, hlo, hI⟩ := id Cc
  obtain ⟨fs, h1, h2⟩ := isC_spec hc
  obtain ⟨q1, h3⟩ := kd_ref h2 hj
  have h4 : fR lay k j = q1 := by simp [fR, h1, h3]
  rw [hq] at h4
  subst h4
  exact va_get (D := G.1) (cl := cls) (C := C) (T := T) (N := n) hx hb hts hin hown hK hP k (WS_get h1) hcl j (Nat.le_of_ble_eq_true hjn) (hts _ (gw_in hk)) (fun _ z => by rw [hsm] at z; exact z) (v := rf G q) (by rw [List.getElem?_mapIdx, h3]; rfl) d (kk res hf p e s m args below meth c H locs ls Cc hP hS hl)
theorem s_putI {ci j k idx n : Nat} {C : String} {T : u_T} {v : Int32} {ty0 : Nat → FieldType} (hc : isC lay k ci = true) (hcl : cls[ci]? = some (C, T, n)) (hin : ∀ w ∈ u_ws C T n, w ∈ tbG) (hty : ∀ k, k < n → parseFieldDescriptor (T k).2.2.1 = some (ty0 k)) (hnm : ∀ a, a < n → ∀ b, b < n → a ≠ b → (T a).2.1 ≠ (T b).2.1) (hj : (kd ci)[j]? = some false) (hjn : Nat.ble (j + 1) n = true) (hsm : (T j).1 = C) (hfin : (T j).2.2.2 = false) (hnr : narrow (ty0 j) (.int v) = .int v) (hft : fits (ty0 j) (.int v) = true) (d : decode b pc = .ok (.putfield idx, 3)) (hk : gw (.fieldLink own idx C (T j).2.1 (T j).2.2.1)) (kk : Sim Qf l lay G lev b own maxL ret (pc + 3) lv st (wr M k j v) f) : Sim Qf l lay G lev b own maxL ret pc lv (.int v :: rf G k :: st) M f := by
  intro res hf p e s m args below meth c H locs ls Cc hP hS hl
  obtain ⟨hx, hb, hml, hown, hts, hr, hK, hE, hlo, hI⟩ := id Cc
  obtain ⟨fs, h1, h2⟩ := isC_spec hc
  have h3 := kd_int h2 hj
  have hj2 : j < n := Nat.le_of_ble_eq_true hjn
  refine va_put (D := G.1) (cl := cls) (C := C) (T := T) (N := n) hx hb hts hin ty0 hty hnm hown hK hP (WS_D hI) hS k (WS_get h1) hcl j hj2 (hts _ (gw_in hk)) (fun _ z => by rw [hsm] at z; exact z) hfin (ty := ty0 j) (v := .int v) (hty j hj2) hnr hft (by rw [List.length_mapIdx]; exact (List.getElem?_eq_some_iff.mp h3).1) d (fun H1 locs1 hP1 hD1 hS1 => kk res hf p e s m args below meth c H1 locs1 ls Cc ?_ hS1 hl)
  rw [fdv_set h3] at hP1
  have e9 := WS_set (G := G) (M := M) (upd (M k) j v) h1
  simp only [cel] at e9
  rw [e9] at hP1
  exact hP1
theorem s_getIN {ci j k idx n : Nat} {C : String} {T : u_T} {host : String} (hc : isC lay k ci = true) (hcl : cls[ci]? = some (C, T, n)) (hin : ∀ w ∈ u_ws C T n, w ∈ tbG) (hj : (kd ci)[j]? = some false) (hjn : Nat.ble (j + 1) n = true) (hsm : (T j).1 = C) (d : decode b pc = .ok (.getfield idx, 3)) (hk : nw (.fieldLinkNest own idx C (T j).2.1 (T j).2.2.1 host)) (kk : Sim Qf l lay G lev b own maxL ret (pc + 3) lv (.int (M k j) :: st) M f) : Sim Qf l lay G lev b own maxL ret pc lv (rf G k :: st) M f := by
  intro res hf p e s m args below meth c H locs ls Cc hP hS hl
  obtain ⟨hx, hb, hml, hown, hts, hr, hK, hE, hlo, hI⟩ := id Cc
  obtain ⟨fs, h1, h2⟩ := isC_spec hc
  have h3 := kd_int h2 hj
  exact va_getN (D := G.1) (cl := cls) (C := C) (T := T) (N := n) hx hb hts hin hown hK hP k (WS_get h1) hcl j (Nat.le_of_ble_eq_true hjn) (va_Nw.use rfl (hE.1 _ hk)) (fun _ z => by rw [hsm] at z; exact z) (v := .int (M k j)) (by rw [List.getElem?_mapIdx, h3]; rfl) d (kk res hf p e s m args below meth c H locs ls Cc hP hS hl)
theorem s_getRN {ci j k idx n q : Nat} {C : String} {T : u_T} {host : String} (hc : isC lay k ci = true) (hq : fR lay k j = q) (hcl : cls[ci]? = some (C, T, n)) (hin : ∀ w ∈ u_ws C T n, w ∈ tbG) (hj : (kd ci)[j]? = some true) (hjn : Nat.ble (j + 1) n = true) (hsm : (T j).1 = C) (d : decode b pc = .ok (.getfield idx, 3)) (hk : nw (.fieldLinkNest own idx C (T j).2.1 (T j).2.2.1 host)) (kk : Sim Qf l lay G lev b own maxL ret (pc + 3) lv (rf G q :: st) M f) : Sim Qf l lay G lev b own maxL ret pc lv (rf G k :: st) M f := by
  intro res hf p e s m args below meth c H locs ls Cc hP hS hl
  obtain ⟨hx, hb, hml, hown, hts, hr, hK, hE, hlo, hI⟩ := id Cc
  obtain ⟨fs, h1, h2⟩ := isC_spec hc
  obtain ⟨q1, h3⟩ := kd_ref h2 hj
  have h4 : fR lay k j = q1 := by simp [fR, h1, h3]
  rw [hq] at h4
  subst h4
  exact va_getN (D := G.1) (cl := cls) (C := C) (T := T) (N := n) hx hb hts hin hown hK hP k (WS_get h1) hcl j (Nat.le_of_ble_eq_true hjn) (va_Nw.use rfl (hE.1 _ hk)) (fun _ z => by rw [hsm] at z; exact z) (v := rf G q) (by rw [List.getElem?_mapIdx, h3]; rfl) d (kk res hf p e s m args below meth c H locs ls Cc hP hS hl)
theorem s_putIN {ci j k idx n : Nat} {C : String} {T : u_T} {host : String} {v : Int32} {ty0 : Nat → FieldType} (hc : isC lay k ci = true) (hcl : cls[ci]? = some (C, T, n)) (hin : ∀ w ∈ u_ws C T n, w ∈ tbG) (hty : ∀ k, k < n → parseFieldDescriptor (T k).2.2.1 = some (ty0 k)) (hnm : ∀ a, a < n → ∀ b, b < n → a ≠ b → (T a).2.1 ≠ (T b).2.1) (hj : (kd ci)[j]? = some false) (hjn : Nat.ble (j + 1) n = true) (hsm : (T j).1 = C) (hfin : (T j).2.2.2 = false) (hnr : narrow (ty0 j) (.int v) = .int v) (hft : fits (ty0 j) (.int v) = true) (d : decode b pc = .ok (.putfield idx, 3)) (hk : nw (.fieldLinkNest own idx C (T j).2.1 (T j).2.2.1 host)) (kk : Sim Qf l lay G lev b own maxL ret (pc + 3) lv st (wr M k j v) f) : Sim Qf l lay G lev b own maxL ret pc lv (.int v :: rf G k :: st) M f := by
  intro res hf p e s m args below meth c H locs ls Cc hP hS hl
  obtain ⟨hx, hb, hml, hown, hts, hr, hK, hE, hlo, hI⟩ := id Cc
  obtain ⟨fs, h1, h2⟩ := isC_spec hc
  have h3 := kd_int h2 hj
  have hj2 : j < n := Nat.le_of_ble_eq_true hjn
  refine va_putN (D := G.1) (cl := cls) (C := C) (T := T) (N := n) hx hb hts hin ty0 hty hnm hown hK hP (WS_D hI) hS k (WS_get h1) hcl j hj2 (va_Nw.use rfl (hE.1 _ hk)) (fun _ z => by rw [hsm] at z; exact z) hfin (ty := ty0 j) (v := .int v) (hty j hj2) hnr hft (by rw [List.length_mapIdx]; exact (List.getElem?_eq_some_iff.mp h3).1) d (fun H1 locs1 hP1 hD1 hS1 => kk res hf p e s m args below meth c H1 locs1 ls Cc ?_ hS1 hl)
  rw [fdv_set h3] at hP1
  have e9 := WS_set (G := G) (M := M) (upd (M k) j v) h1
  simp only [cel] at e9
  rw [e9] at hP1
  exact hP1
theorem s_iald {k n : Nat} {i : Int32} (ha : isN lay k n = true) (hi : inb i n = true) (d : decode b pc = .ok (.iaload, 1)) (kk : Sim Qf l lay G lev b own maxL ret (pc + 1) lv (.int (M k i.toNatClampNeg) :: st) M f) : Sim Qf l lay G lev b own maxL ret pc lv (.int i :: rf G k :: st) M f := by
  intro res hf p e s m args below meth c H locs ls Cc hP hS hl
  obtain ⟨hx, hb, hml, hown, hts, hr, hK, hE, hlo, hI⟩ := id Cc
  exact va_iald (D := G.1) (cl := cls) hx hb hK hP k 0 (WS_get (isN_spec ha)) rfl (inb_vp hi) d (kk res hf p e s m args below meth c H locs ls Cc hP hS hl)
theorem s_iast {k n : Nat} {i x : Int32} (ha : isN lay k n = true) (hi : inb i n = true) (d : decode b pc = .ok (.iastore, 1)) (kk : Sim Qf l lay G lev b own maxL ret (pc + 1) lv st (wr M k i.toNatClampNeg x) f) : Sim Qf l lay G lev b own maxL ret pc lv (.int x :: .int i :: rf G k :: st) M f := by
  intro res hf p e s m args below meth c H locs ls Cc hP hS hl
  obtain ⟨hx, hb, hml, hown, hts, hr, hK, hE, hlo, hI⟩ := id Cc
  refine va_iast (D := G.1) (cl := cls) hx hb hK hP (WS_D hI) hS k 0 (WS_get (isN_spec ha)) rfl (inb_vp hi) d (fun H1 locs1 hP1 hD1 hS1 => kk res hf p e s m args below meth c H1 locs1 ls Cc ?_ hS1 hl)
  have e9 := WS_set (G := G) (M := M) (upd (M k) i.toNatClampNeg x) (isN_spec ha)
  simp only [cel] at e9
  rw [e9] at hP1
  exact hP1
theorem s_alen {k n : Nat} {v : Int32} (ha : isN lay k n = true) (hv : Int32.ofNat n = v) (d : decode b pc = .ok (.arraylength, 1)) (kk : Sim Qf l lay G lev b own maxL ret (pc + 1) lv (.int v :: st) M f) : Sim Qf l lay G lev b own maxL ret pc lv (rf G k :: st) M f := by
  intro res hf p e s m args below meth c H locs ls Cc hP hS hl
  obtain ⟨hx, hb, hml, hown, hts, hr, hK, hE, hlo, hI⟩ := id Cc
  exact va_alen (D := G.1) (cl := cls) hx hb hK hP k 0 (WS_get (isN_spec ha)) (ty := .int) rfl hv d (kk res hf p e s m args below meth c H locs ls Cc hP hS hl)
theorem s_aald {k t bs sd n : Nat} {i : Int32} {cn : String} (ha : isF lay k t bs sd n = true) (ht : (tys G)[t]? = some (G.2.1 t, .object cn)) (hi : inb i n = true) (d : decode b pc = .ok (.aaload, 1)) (kk : Sim Qf l lay G lev b own maxL ret (pc + 1) lv (rf G (bs + sd * i.toNatClampNeg) :: st) M f) : Sim Qf l lay G lev b own maxL ret pc lv (.int i :: rf G k :: st) M f := by
  intro res hf p e s m args below meth c H locs ls Cc hP hS hl
  obtain ⟨hx, hb, hml, hown, hts, hr, hK, hE, hlo, hI⟩ := id Cc
  exact va_aldq (D := G.1) (cl := cls) hx hb hK hP k t (WS_get (isF_spec ha)) ht (inb_vp hi) d (kk res hf p e s m args below meth c H locs ls Cc hP hS hl)
theorem s_copy {k0 n0 k1 n1 idx : Nat} {sp dp n : Int32} (h0 : isN lay k0 n0 = true) (h1 : isN lay k1 n1 = true) (hg : (!(decide (sp < 0)) && !(decide (dp < 0)) && !(decide (n < 0)) && decide (sp.toNatClampNeg + n.toNatClampNeg ≤ n0) && decide (dp.toNatClampNeg + n.toNatClampNeg ≤ n1)) = true) (hlv : Nat.ble 1 lev = true) (hst : st = []) (hk : gw (.methodLink own idx arraycopyName)) (hn : gw (.native arraycopyName)) (hs : gw (.static arraycopyName)) (hi : gw (.initialized "java/lang/System")) (d : decode b pc = .ok (.invokestatic idx, 3)) (kk : Sim Qf l lay G lev b own maxL ret (pc + 3) lv st (cpm M k0 sp.toNatClampNeg k1 dp.toNatClampNeg n.toNatClampNeg) f) : Sim Qf l lay G lev b own maxL ret pc lv (.int n :: .int dp :: rf G k1 :: .int sp :: rf G k0 :: st) M f := by
  intro res hf p e s m args below meth c H locs ls Cc hP hS hl
  obtain ⟨hx, hb, hml, hown, hts, hr, hK, hE, hlo, hI⟩ := id Cc
  simp only [Bool.and_eq_true, Bool.not_eq_true', decide_eq_false_iff_not, decide_eq_true_eq] at hg
  obtain ⟨⟨⟨⟨g1, g2⟩, g3⟩, g4⟩, g5⟩ := hg
  have hlv1 : 1 ≤ lev := Nat.le_of_ble_eq_true hlv
  subst hst
  refine va_copyi (D := G.1) (cl := cls) hx hb (hml.trans hl.1.symm) hown (hts _ (gw_in hk)) (hts _ (gw_in hn)) (hts _ (gw_in hs)) (hts _ (gw_in hi)) hK hP (WS_D hI) hS k0 k1 0 0 (WS_get (isN_spec h0)) (WS_get (isN_spec h1)) (ty := .int) rfl rfl rfl g1 g2 g3 g4 g5 (fun _ _ => rfl) hlv1 ?_ d (fun H1 locs1 hP1 hD1 hS1 => kk res hf p e s m args below meth c H1 locs1 ls Cc ?_ hS1 hl)
  · show 0 + _ ≤ 40 * lev
    have : nativeFrameWords "java/lang/System" "arraycopy" 5 + 11 ≤ 40 := by decide
    omega
  · have e9 := WS_set (G := G) (M := M) (va_cpy (M k0) (M k1) sp.toNatClampNeg dp.toNatClampNeg n.toNatClampNeg) (isN_spec h1)
    simp only [cel] at e9
    rw [e9] at hP1
    exact hP1
theorem s_getsA {idx : Nat} (hk : gw (.fieldLink own idx "IceType" "ABOVE" "[I")) (d : decode b pc = .ok (.getstatic idx, 3)) (kk : Sim Qf l lay G lev b own maxL ret (pc + 3) lv (xf G 0 :: st) M f) : Sim Qf l lay G lev b own maxL ret pc lv st M f := by
  intro res hf p e s m args below meth c H locs ls Cc hP hS hl
  obtain ⟨hx, hb, hml, hown, hts, hr, hK, hE, hlo, hI⟩ := id Cc
  exact va_gets hx hb hE.2.1 hS hown (hts _ (gw_in hk)) (fun _ z => z) d (kk res hf p e s m args below meth c H locs ls Cc hP hS hl)
theorem s_getsB {idx : Nat} (hk : gw (.fieldLink own idx "IceType$Voices" "BODIES" "[I")) (d : decode b pc = .ok (.getstatic idx, 3)) (kk : Sim Qf l lay G lev b own maxL ret (pc + 3) lv (xf G 1 :: st) M f) : Sim Qf l lay G lev b own maxL ret pc lv st M f := by
  intro res hf p e s m args below meth c H locs ls Cc hP hS hl
  obtain ⟨hx, hb, hml, hown, hts, hr, hK, hE, hlo, hI⟩ := id Cc
  exact va_gets hx hb hE.2.2.2.1 hS hown (hts _ (gw_in hk)) (fun _ z => z) d (kk res hf p e s m args below meth c H locs ls Cc hP hS hl)
theorem s_getsC {idx : Nat} (hk : gw (.fieldLink own idx "java/lang/String" "COMPACT_STRINGS" "Z")) (d : decode b pc = .ok (.getstatic idx, 3)) (kk : Sim Qf l lay G lev b own maxL ret (pc + 3) lv (.int 1 :: st) M f) : Sim Qf l lay G lev b own maxL ret pc lv st M f := by
  intro res hf p e s m args below meth c H locs ls Cc hP hS hl
  obtain ⟨hx, hb, hml, hown, hts, hr, hK, hE, hlo, hI⟩ := id Cc
  exact va_gets hx hb hE.2.2.2.2.2.1 hS hown (hts _ (gw_in hk)) (fun _ z => z) d (kk res hf p e s m args below meth c H locs ls Cc hP hS hl)
theorem s_sldA {i : Int32} (hi : inb i 7 = true) (d : decode b pc = .ok (.iaload, 1)) (kk : Sim Qf l lay G lev b own maxL ret (pc + 1) lv (.int (tabA i.toNatClampNeg) :: st) M f) : Sim Qf l lay G lev b own maxL ret pc lv (.int i :: xf G 0 :: st) M f := by
  intro res hf p e s m args below meth c H locs ls Cc hP hS hl
  obtain ⟨hx, hb, hml, hown, hts, hr, hK, hE, hlo, hI⟩ := id Cc
  exact va_ti hx hb hE.2.2.1 hS (inb_vp hi) rfl d (kk res hf p e s m args below meth c H locs ls Cc hP hS hl)
theorem s_sldB {i : Int32} (hi : inb i 28 = true) (d : decode b pc = .ok (.iaload, 1)) (kk : Sim Qf l lay G lev b own maxL ret (pc + 1) lv (.int (tabB i.toNatClampNeg) :: st) M f) : Sim Qf l lay G lev b own maxL ret pc lv (.int i :: xf G 1 :: st) M f := by
  intro res hf p e s m args below meth c H locs ls Cc hP hS hl
  obtain ⟨hx, hb, hml, hown, hts, hr, hK, hE, hlo, hI⟩ := id Cc
  exact va_ti hx hb hE.2.2.2.2.1 hS (inb_vp hi) rfl d (kk res hf p e s m args below meth c H locs ls Cc hP hS hl)
theorem s_gd {cnd : Bool} (kk : cnd = true → Sim Qf l lay G lev b own maxL ret pc lv st M f) : Sim Qf l lay G lev b own maxL ret pc lv st M (gd cnd f) := by
  intro res hf
  cases hc : cnd with
  | true => rw [hc] at hf; exact kk hc res hf
  | false => rw [hc] at hf; cases hf
theorem s_lt {α : Type} {x : α} {k : α → Option (β × Mm)} (kk : Sim Qf l lay G lev b own maxL ret pc lv st M (k x)) : Sim Qf l lay G lev b own maxL ret pc lv st M (lt x k) := kk
theorem s_leti {x : Int32} {k : Int32 → Option (β × Mm)} (kk : ∀ y : Int32, Sim Qf l lay G lev b own maxL ret pc lv (.int y :: st) M (k y)) : Sim Qf l lay G lev b own maxL ret pc lv (.int x :: st) M (lt x k) := kk x
theorem s_letM {k : Mm → Option (β × Mm)} (kk : ∀ N : Mm, Sim Qf l lay G lev b own maxL ret pc lv st N (k N)) : Sim Qf l lay G lev b own maxL ret pc lv st M (lt M k) := kk M
theorem s_none : Sim Qf l lay G lev b own maxL ret pc lv st M (none : Option (β × Mm)) := fun res hf => by cases hf
theorem s_iret {v : Int32} (hret : ret = some .int) (d : decode b pc = .ok (.ireturn, 1)) : Sim cQi l lay G lev b own maxL ret pc lv [.int v] M (some (v, M)) := by
  intro res hf p e s m args below meth c H locs ls Cc hP hS hl
  obtain ⟨hx, hb, hml, hown, hts, hr, hK, hE, hlo, hI⟩ := id Cc
  subst hret
  cases hf
  exact W.iret (v := v) hx hb hr (fun t ht hW => ⟨⟨v, M, rfl, rfl, by show va_P _ _ _ t.heap; rw [ht]; exact hP⟩, hS.F ht⟩) hS.2.2 d hlo
theorem s_zretB {r : Bool} (hret : ret = some .boolean) (d : decode b pc = .ok (.ireturn, 1)) : Sim cQz l lay G lev b own maxL ret pc lv [.int (bi r)] M (some (r, M)) := by
  intro res hf p e s m args below meth c H locs ls Cc hP hS hl
  obtain ⟨hx, hb, hml, hown, hts, hr, hK, hE, hlo, hI⟩ := id Cc
  subst hret
  cases hf
  exact W.zret (v := bi r) (ty := .boolean) hx hb hr (by cases r <;> rfl) (fun t ht hW => ⟨⟨bi r, M, rfl, ⟨rfl, rfl⟩, by show va_P _ _ _ t.heap; rw [ht]; exact hP⟩, hS.F ht⟩) hS.2.2 d hlo
theorem s_zret0 (hret : ret = some .boolean) (d : decode b pc = .ok (.ireturn, 1)) : Sim cQz l lay G lev b own maxL ret pc lv [.int 0] M (some (false, M)) := s_zretB (r := false) hret d
theorem s_zret1 (hret : ret = some .boolean) (d : decode b pc = .ok (.ireturn, 1)) : Sim cQz l lay G lev b own maxL ret pc lv [.int 1] M (some (true, M)) := s_zretB (r := true) hret d
theorem s_zretI {x : Int32} (hret : ret = some .boolean) (d : decode b pc = .ok (.ireturn, 1)) : Sim cQz l lay G lev b own maxL ret pc lv [.int x] M (gd (isb x) (some (decide (x = 1), M))) := by
  refine s_gd fun h => ?_
  simp only [isb, Bool.or_eq_true, decide_eq_true_eq] at h
  rcases h with rfl | rfl
  · exact s_zret0 hret d
  · exact s_zret1 hret d
theorem s_vret (hret : ret = none) (d : decode b pc = .ok (.return_, 1)) : Sim cQv l lay G lev b own maxL ret pc lv [] M (some ((), M)) := by
  intro res hf p e s m args below meth c H locs ls Cc hP hS hl
  obtain ⟨hx, hb, hml, hown, hts, hr, hK, hE, hlo, hI⟩ := id Cc
  subst hret
  cases hf
  exact W.vret hx hb hr (fun t ht hW => ⟨⟨M, rfl, rfl, by show va_P _ _ _ t.heap; rw [ht]; exact hP⟩, hS.F ht⟩) hS.2.2 d hlo
theorem s_aret {k : Nat} {cn : String} (hret : ret = some (.object cn)) (d : decode b pc = .ok (.areturn, 1)) : Sim cQr l lay G lev b own maxL ret pc lv [rf G k] M (some (k, M)) := by
  intro res hf p e s m args below meth c H locs ls Cc hP hS hl
  obtain ⟨hx, hb, hml, hown, hts, hr, hK, hE, hlo, hI⟩ := id Cc
  subst hret
  cases hf
  exact W.aret (v := rf G k) hx hb hr (Or.inl ⟨cn, rfl⟩) (Or.inr ⟨_, rfl⟩) (fun t ht hW => ⟨⟨(k, M), _, rfl, rfl, rfl, by rw [ht]; exact hP⟩, hS.F ht⟩) hS.2.2 d hlo
end SR
