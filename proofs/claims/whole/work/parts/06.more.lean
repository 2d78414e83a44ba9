/-! more rows: texts, small helps -/
def FU : Nat := 2000
theorem ble_of {a b lev : Nat} (h : b ≤ lev) (h2 : Nat.ble a b = true) : Nat.ble a lev = true := Nat.ble_eq.mpr (Nat.le_trans (Nat.le_of_ble_eq_true h2) h)
theorem isb_n {x : Int32} (h : isb x = true) : narrow .boolean (.int x) = .int x := by
  simp only [isb, Bool.or_eq_true, decide_eq_true_eq] at h
  rcases h with rfl | rfl <;> rfl
theorem Mt.of2 {β : Type} {Qf : List Sh → Gx → (β × Mm) → Array Value → State → Outcome → State → Prop} {l : Launch} {lay : List Sh} {G : Gx} {lev : Nat} {y : MethodName} {b : ByteArray} {own : String} {maxL : Nat} {ret : Option FieldType} {av : List Value} {M : Mm} {f : Option (β × Mm)} {lv : List (Nat × Value)}
    (ho : y.cls = own) (hy : plainName y.cls = true) (hl : lv_args 0 av = lv) (hn : Nat.ble (lg_sl av).length maxL = true) (h : Sim Qf l lay G lev b own maxL ret 0 lv [] M f) : Mt Qf l lay G lev y b maxL ret av M f := by
  subst ho
  exact Mt.of hy hl hn h
theorem Mt.none {β : Type} {Qf : List Sh → Gx → (β × Mm) → Array Value → State → Outcome → State → Prop} {l : Launch} {lay : List Sh} {G : Gx} {lev : Nat} {y : MethodName} {b : ByteArray} {maxL : Nat} {ret : Option FieldType} {av : List Value} {M : Mm} : Mt Qf l lay G lev y b maxL ret av M (none : Option (β × Mm)) := fun res h => by cases h
section SX
variable {β : Type} {Qf : List Sh → Gx → (β × Mm) → Array Value → State → Outcome → State → Prop} {l : Launch} {lay : List Sh} {G : Gx} {lev : Nat} {b : ByteArray} {own : String} {maxL : Nat} {ret : Option FieldType} {pc : Nat} {lv : List (Nat × Value)} {st : List Value} {M : Mm} {f : Option (β × Mm)}
variable {γ : Type} {Qc : List Sh → Gx → (γ × Mm) → Array Value → State → Outcome → State → Prop} {lev' : Nat} {y : MethodName} {b' : ByteArray} {maxL' : Nat} {ret' : Option FieldType} {av : List Value} {fc : Option (γ × Mm)} {rest : List Value} {n idx : Nat}
theorem s_sub {lv' : List (Nat × Value)} (ks : List Nat) (hk : lv_pick lv ks = lv') (kk : Sim Qf l lay G lev b own maxL ret pc lv' st M f) : Sim Qf l lay G lev b own maxL ret pc lv st M f := by
  intro res hf p e s m args below meth c H locs ls Cc hP hS hl
  exact kk res hf p e s m args below meth c H locs ls Cc hP hS (lv_sub hl ks hk)
theorem s_bret {v : Int32} (hret : ret = some .byte) (d : decode b pc = .ok (.ireturn, 1)) : Sim cQi l lay G lev b own maxL ret pc lv [.int v] M (gd (decide (v.toInt8.toInt32 = v)) (some (v, M))) := by
  refine s_gd fun hv => ?_
  simp only [decide_eq_true_eq] at hv
  intro res hf p e s m args below meth c H locs ls Cc hP hS hl
  obtain ⟨hx, hb, hml, hown, hts, hr, hK, hE, hlo, hI⟩ := id Cc
  subst hret
  cases hf
  exact W.zret (v := v) (ty := .byte) hx hb hr (by show Value.int (v.toInt8.toInt32) = _; rw [hv]) (fun t ht hW => ⟨⟨v, M, rfl, rfl, by show va_P _ _ _ t.heap; rw [ht]; exact hP⟩, hS.F ht⟩) hS.2.2 d hlo
theorem s_runVS {u : Nat} (hu : decide (u < 2) = true) (hM : Mt Qc l lay G lev' y b' maxL' ret' (xf G (2 + u) :: av) M fc) (ok : okC y b' maxL' ret' n) (lk : lkV own idx y RJ0) (hlev : Nat.ble (lev' + 1) lev = true) (hn : av.length = n) (hst : st = av.reverse ++ xf G (2 + u) :: rest) (hr8 : Nat.ble ((rest.map fun v => v.category).sum) 8 = true) (d : decode b pc = .ok (.invokevirtual idx, 3)) : RunP Qc l lay G lev b own maxL ret pc lv st rest M fc (xf G (2 + u) :: av).toArray := by
  intro rc hfc p e s m args below meth c H locs ls Cc hP hS hl
  obtain ⟨hx, hb, hml, hown, hts, hr, hK, hE, hlo, hI⟩ := id Cc
  obtain ⟨k1, k2, k3, k4⟩ := ok
  have hu := of_decide_eq_true hu
  exact va_runV (As := av) (rest := rest) (C := RJ0) ⟨hx, hb, hml, hown, hts⟩ (hM rc hfc hI) ⟨callB_of n hts (wds_good k1) rfl rfl rfl (hts _ (gw_in k2)) (hts _ (gw_in lk.1)) k3 (rmm_ok hlev k4), hts _ (gw_in lk.2.1), hts _ (gw_in lk.2.2)⟩ ⟨cP_blind, vk_recv (adK := fun i => G.2.2.2 (2 + i)) (i := u) hE.2.2.2.2.2.2.2.2 hu hS, fun U hU hW => ⟨rfl, by rw [hU]; exact hP, va_K.moved hW.alike hK, Ev_move hE hS hU hW⟩⟩ rfl hn hl.1 hst (lv_room (Nat.le_of_ble_eq_true hr8)) d ⟨Nat.le_refl 0, Nat.le_refl 0⟩
theorem s_strv {u : Nat} (hu : decide (u < 2) = true) (hk : gw (.fieldLink own idx "java/lang/String" "value" "[B")) (d : decode b pc = .ok (.getfield idx, 3)) (kk : Sim Qf l lay G lev b own maxL ret (pc + 3) lv (xf G (4 + u) :: st) M f) : Sim Qf l lay G lev b own maxL ret pc lv (xf G (2 + u) :: st) M f := by
  intro res hf p e s m args below meth c H locs ls Cc hP hS hl
  obtain ⟨hx, hb, hml, hown, hts, hr, hK, hE, hlo, hI⟩ := id Cc
  exact vk_getf hx hb (hE.2.2.2.2.2.2.2.2.1 u (of_decide_eq_true hu)).2.2.1 hS hown (hts _ (gw_in hk)) (fun _ z => z) d (kk res hf p e s m args below meth c H locs ls Cc hP hS hl)
theorem s_strc {u : Nat} (hu : decide (u < 2) = true) (hk : gw (.fieldLink own idx "java/lang/String" "coder" "B")) (d : decode b pc = .ok (.getfield idx, 3)) (kk : Sim Qf l lay G lev b own maxL ret (pc + 3) lv (.int 0 :: st) M f) : Sim Qf l lay G lev b own maxL ret pc lv (xf G (2 + u) :: st) M f := by
  intro res hf p e s m args below meth c H locs ls Cc hP hS hl
  obtain ⟨hx, hb, hml, hown, hts, hr, hK, hE, hlo, hI⟩ := id Cc
  exact vk_getf hx hb (hE.2.2.2.2.2.2.2.2.1 u (of_decide_eq_true hu)).2.1 hS hown (hts _ (gw_in hk)) (fun _ z => z) d (kk res hf p e s m args below meth c H locs ls Cc hP hS hl)
theorem s_bald {u : Nat} {i : Int32} (hu : decide (u < 2) = true) (hi : inb i (sLen.getD u 0) = true) (d : decode b pc = .ok (.baload, 1)) (kk : Sim Qf l lay G lev b own maxL ret (pc + 1) lv (.int ((sByt.getD u []).getD (ix i) 0) :: st) M f) : Sim Qf l lay G lev b own maxL ret pc lv (.int i :: xf G (4 + u) :: st) M f := by
  intro res hf p e s m args below meth c H locs ls Cc hP hS hl
  obtain ⟨hx, hb, hml, hown, hts, hr, hK, hE, hlo, hI⟩ := id Cc
  exact va_tb hx hb (hE.2.2.2.2.2.2.2.2.1 u (of_decide_eq_true hu)).2.2.2 hS (inb_vp hi) rfl d (kk res hf p e s m args below meth c H locs ls Cc hP hS hl)
theorem s_blen {u : Nat} (hu : decide (u < 2) = true) (d : decode b pc = .ok (.arraylength, 1)) (kk : Sim Qf l lay G lev b own maxL ret (pc + 1) lv (.int (Int32.ofNat (sLen.getD u 0)) :: st) M f) : Sim Qf l lay G lev b own maxL ret pc lv (xf G (4 + u) :: st) M f := by
  intro res hf p e s m args below meth c H locs ls Cc hP hS hl
  obtain ⟨hx, hb, hml, hown, hts, hr, hK, hE, hlo, hI⟩ := id Cc
  exact va_tlen hx hb (hE.2.2.2.2.2.2.2.2.1 u (of_decide_eq_true hu)).2.2.2 hS rfl d (kk res hf p e s m args below meth c H locs ls Cc hP hS hl)
theorem s_getsAN {host : String} (hk : nw (.fieldLinkNest own idx "IceType" "ABOVE" "[I" host)) (d : decode b pc = .ok (.getstatic idx, 3)) (kk : Sim Qf l lay G lev b own maxL ret (pc + 3) lv (xf G 0 :: st) M f) : Sim Qf l lay G lev b own maxL ret pc lv st M f := by
  intro res hf p e s m args below meth c H locs ls Cc hP hS hl
  obtain ⟨hx, hb, hml, hown, hts, hr, hK, hE, hlo, hI⟩ := id Cc
  exact va_getsN hx hb hE.2.1 hS hown (va_Nw.use rfl (hE.1 _ hk)) (fun _ z => z) d (kk res hf p e s m args below meth c H locs ls Cc hP hS hl)
end SX
