/-! MAKING: the whole object. -/
theorem ct_X7s (l : Launch) (G : Gx) (h0 : Nat) : CT l G 3 yX7_init cX7_init 2 [] h0 7 dX7 (shT G) 67 678 := by
  have e : wShop G = shT G := funext (shT_eq G)
  rw [← e]; exact ct_X7 l G h0
def MC0 : Mm := fun a => if a < 68 then MSh a else if a < 136 then MSh (a - 68) else if a < 138 then (fun _ => 0) else if a < 146 then (fun j => if j = 5 then -1 else 0) else fun _ => 0
def icA (h0 qp qr : Nat) (a1 a2 a3 a4 a5 a6 : Nat → Nat) (x : Nat → Nat → Nat) (k : Nat) : Nat := if k < 68 then a1 k else if k < 136 then a2 (k - 68) else if k < 146 then a3 (k - 136) else if k < 153 then a4 (k - 146) else if k < 156 then a5 (k - 153) else if k < 159 then a6 (k - 156) else if k < 160 then qp else if k < 172 then x ((k - 160) / 3) ((k - 160) % 3) else if k < 173 then qr else h0
def icB (h0 qp qr : Nat) (a1 a2 a3 a4 a5 a6 : Nat → Nat) (x : Nat → Nat → Nat) (k : Nat) : Nat := match k with
  | 0 => h0
  | k + 1 => icA h0 qp qr a1 a2 a3 a4 a5 a6 x k
/-- the addresses, the object itself as the last -/
abbrev adI (ad : Nat → Nat) : Nat → Nat := fun k => if k < 173 then ad (k + 1) else ad 0
abbrev wIce (G : Gx) (ad : Nat → Nat) : va_W := WS layC (gA G (adI ad)) MC0
abbrev layS : List Sh := layC.take 68
abbrev layE : List Sh := layC.drop 136
theorem layC_eq : layC = layS ++ (layS.map (sft 68) ++ layE) := by decide +kernel
theorem layS_len : layS.length = 68 := by decide +kernel
theorem layS_ok : layS.all (okSh 68) = true := by decide +kernel
theorem layC_ok : layC.all (okSh 174) = true := by decide +kernel
theorem layC_len : layC.length = 174 := by decide +kernel
theorem P_app {D : va_G} {cl : List vw_C} {w1 w2 : va_W} {H : Heap} : va_P D cl (w1 ++ w2) H ↔ va_P D cl w1 H ∧ va_P D cl w2 H := by
  rw [P_mem, P_mem, P_mem]
  constructor
  · exact fun h => ⟨fun x hx => h x (List.mem_append.mpr (Or.inl hx)), fun x hx => h x (List.mem_append.mpr (Or.inr hx))⟩
  · exact fun h x hx => (List.mem_append.mp hx).elim (h.1 x) (h.2 x)
theorem WS_cut {G : Gx} {g : Nat → Nat} : WS layC (gA G g) MC0 = WS layS (gA G g) MC0 ++ (WS layS (gA G (fun k => g (68 + k))) (fun k => MC0 (68 + k)) ++ WSr (gA G g) MC0 136 layE) := by
  rw [layC_eq, WS_app layS_len, WSo_app (n := 136) (by rw [List.length_map, layS_len]), ← WS_sft (G := gA G g), WSo_r layE]
section ICE
variable {G : Gx} {h0 qp qr : Nat} {a1 a2 a3 a4 a5 a6 : Nat → Nat} {x : Nat → Nat → Nat}
abbrev icW (G : Gx) (h0 qp qr : Nat) (a1 a2 a3 a4 a5 a6 : Nat → Nat) (x : Nat → Nat → Nat) : va_W := ([(h0, .inr (9, [.ref (a1 0), .ref (a2 0), .int 0, .ref (a3 0), .ref (a4 0), .ref (a5 0), .ref (a6 0), .ref qp, .ref qr])), refs G 3 (qp) 4 (aF ((List.range 4).map x)), ints G (qr) 7 (fun _ => 0)] : va_W) ++ ((((((shT G a1 ++ shT G a2) ++ wAhead G (a1 0) a3) ++ wRows G (a1 0) (a3 0) a4) ++ wReader G (a1 64) a5) ++ wVoices G a6) ++ ((List.range 4).map x).flatMap (wPlate G))
theorem icA_B {k : Nat} (hk : k < 174) : icA h0 qp qr a1 a2 a3 a4 a5 a6 x k = adI (icB h0 qp qr a1 a2 a3 a4 a5 a6 x) k := by
  show _ = if k < 173 then icA h0 qp qr a1 a2 a3 a4 a5 a6 x k else h0
  by_cases h : k < 173
  · rw [if_pos h]
  · rw [if_neg h]
    obtain rfl : k = 173 := by omega
    rfl
theorem icA_1 {k : Nat} (hk : k < 68) : a1 k = icA h0 qp qr a1 a2 a3 a4 a5 a6 x k := by unfold icA; rw [if_pos hk]
theorem icA_2 {k : Nat} (hk : k < 68) : a2 k = icA h0 qp qr a1 a2 a3 a4 a5 a6 x (68 + k) := by unfold icA; rw [if_neg (by omega), if_pos (by omega), show 68 + k - 68 = k by omega]
theorem icA_3 {j : Nat} (hj : j < 8) : a3 (2 + 1 * j) = icA h0 qp qr a1 a2 a3 a4 a5 a6 x (138 + 1 * j) := by unfold icA; rw [if_neg (by omega), if_neg (by omega), if_pos (by omega), show 138 + 1 * j - 136 = 2 + 1 * j by omega]
theorem icA_x {j : Nat} (hj : j < 4) : x j 0 = icA h0 qp qr a1 a2 a3 a4 a5 a6 x (160 + 3 * j) := by unfold icA; rw [if_neg (by omega), if_neg (by omega), if_neg (by omega), if_neg (by omega), if_neg (by omega), if_neg (by omega), if_neg (by omega), if_pos (by omega), show (160 + 3 * j - 160) / 3 = j by omega, show (160 + 3 * j - 160) % 3 = 0 by omega]
theorem MC_1 {k : Nat} (hk : k < 68) : MSh k = MC0 k := by unfold MC0; rw [if_pos hk]
theorem MC_2 {k : Nat} (hk : k < 68) : MSh k = MC0 (68 + k) := by unfold MC0; rw [if_neg (by omega), if_pos (by omega), show 68 + k - 68 = k by omega]
abbrev icR (G : Gx) (h0 qp qr : Nat) (a1 a2 a3 a4 a5 a6 : Nat → Nat) (x : Nat → Nat → Nat) : va_W := wAhead G (a1 0) a3 ++ (wRows G (a1 0) (a3 0) a4 ++ (wReader G (a1 64) a5 ++ (wVoices G a6 ++ ([refs G 3 qp 4 (aF ((List.range 4).map x))] ++ (((List.range 4).map x).flatMap (wPlate G) ++ [ints G qr 7 (fun _ => 0), (h0, .inr (9, [.ref (a1 0), .ref (a2 0), .int 0, .ref (a3 0), .ref (a4 0), .ref (a5 0), .ref (a6 0), .ref qp, .ref qr]))])))))
theorem perm7 {α : Type} (o p r : α) (s1 s2 s3 s4 s5 s6 s7 : List α) : ([o, p, r] ++ ((((((s1 ++ s2) ++ s3) ++ s4) ++ s5) ++ s6) ++ s7)).Perm (s1 ++ (s2 ++ (s3 ++ (s4 ++ (s5 ++ (s6 ++ ([p] ++ (s7 ++ [r, o])))))))) := by
  have e : ([o, p, r] ++ ((((((s1 ++ s2) ++ s3) ++ s4) ++ s5) ++ s6) ++ s7)) = [o, p, r] ++ ((s1 ++ s2 ++ s3 ++ s4 ++ s5 ++ s6) ++ s7) := rfl
  have e2 : s1 ++ (s2 ++ (s3 ++ (s4 ++ (s5 ++ (s6 ++ ([p] ++ (s7 ++ [r, o]))))))) = (s1 ++ s2 ++ s3 ++ s4 ++ s5 ++ s6) ++ ([p] ++ (s7 ++ [r, o])) := by simp only [List.append_assoc]
  rw [e, e2]
  generalize (s1 ++ s2 ++ s3 ++ s4 ++ s5 ++ s6) = S
  have h1 : ([o, p, r] ++ (S ++ s7)).Perm (S ++ ([o, p, r] ++ s7)) := List.perm_append_comm_assoc _ _ _
  refine h1.trans (List.Perm.append_left S ?_)
  have h2 : ([o, p, r] ++ s7).Perm (p :: o :: r :: s7) := List.Perm.swap p o (r :: s7)
  refine h2.trans (List.Perm.cons p ?_)
  have h3 : (o :: r :: s7).Perm (r :: o :: s7) := List.Perm.swap r o s7
  exact h3.trans (List.perm_append_comm (l₁ := [r, o]) (l₂ := s7))
theorem icPerm : (icW G h0 qp qr a1 a2 a3 a4 a5 a6 x).Perm (shT G a1 ++ (shT G a2 ++ icR G h0 qp qr a1 a2 a3 a4 a5 a6 x)) := perm7 _ _ _ _ _ _ _ _ _ _
set_option maxRecDepth 20000 in
theorem icP {H : Heap} (h : va_P G.1 cls (icW G h0 qp qr a1 a2 a3 a4 a5 a6 x) H) : va_P G.1 cls (wIce G (icB h0 qp qr a1 a2 a3 a4 a5 a6 x)) H := by
  obtain ⟨hF, h⟩ := P_app.mp h
  obtain ⟨h, h7⟩ := P_app.mp h
  obtain ⟨h, h6⟩ := P_app.mp h
  obtain ⟨h, h5⟩ := P_app.mp h
  obtain ⟨h, h4⟩ := P_app.mp h
  obtain ⟨h, h3⟩ := P_app.mp h
  obtain ⟨h1, h2⟩ := P_app.mp h
  rw [← shT_eq] at h1 h2
  have h3 := P_refs h3 (k := 1) (g := fun j => some (icA h0 qp qr a1 a2 a3 a4 a5 a6 x (138 + 1 * j))) rfl (fun j hj => by rw [← icA_3 (a3 := a3) hj])
  have hF := P_refs hF (k := 1) (g := fun j => some (icA h0 qp qr a1 a2 a3 a4 a5 a6 x (160 + 3 * j))) rfl (fun j hj => by rw [aF_range hj, ← icA_x hj])
  have hp := hF.sub [1] rfl
  have hq := hF.sub [2, 0] rfl
  have hE := h3.app (h4.app (h5.app (h6.app (hp.app (h7.app hq)))))
  refine WS_to (n := 174) layC_ok (a1 := icA h0 qp qr a1 a2 a3 a4 a5 a6 x) (M1 := MC0) (fun k hk => icA_B hk) (by rw [layC_len]; omega) (fun _ _ => rfl) ?_
  rw [WS_cut]
  refine P_app.mpr ⟨WS_to layS_ok (fun k hk => icA_1 hk) (by rw [layS_len]; omega) (fun k hk => MC_1 (by rw [layS_len] at hk; exact hk)) h1, P_app.mpr ⟨WS_to layS_ok (fun k hk => icA_2 hk) (by rw [layS_len]; omega) (fun k hk => MC_2 (by rw [layS_len] at hk; exact hk)) h2, ?_⟩⟩
  exact hE
set_option maxRecDepth 20000 in
theorem icD {A : Nat → Prop} (h : va_D A (icW G h0 qp qr a1 a2 a3 a4 a5 a6 x)) : va_D A (wIce G (icB h0 qp qr a1 a2 a3 a4 a5 a6 x)) := by
  have e : (wIce G (icB h0 qp qr a1 a2 a3 a4 a5 a6 x)).map Prod.fst = (List.range 174).map (icA h0 qp qr a1 a2 a3 a4 a5 a6 x) := by
    rw [WS_addr, layC_len]
    exact List.map_congr_left fun k hk => (icA_B (List.mem_range.mp hk)).symm
  have e2 : (WS layC (gA G (icA h0 qp qr a1 a2 a3 a4 a5 a6 x)) MC0).map Prod.fst = (List.range 174).map (icA h0 qp qr a1 a2 a3 a4 a5 a6 x) := by
    rw [WS_addr, layC_len]
  rw [WS_cut, List.map_append, List.map_append, WS_addr, WS_addr, layS_len] at e2
  have f1 : (shT G a1).map Prod.fst = (List.range 68).map (icA h0 qp qr a1 a2 a3 a4 a5 a6 x) := by
    rw [← shT_eq, WS_addr, layS_len]
    exact List.map_congr_left fun k hk => icA_1 (List.mem_range.mp hk)
  have f2 : (shT G a2).map Prod.fst = (List.range 68).map (fun k => icA h0 qp qr a1 a2 a3 a4 a5 a6 x (68 + k)) := by
    rw [← shT_eq, WS_addr, layS_len]
    exact List.map_congr_left fun k hk => icA_2 (List.mem_range.mp hk)
  have hp : (icW G h0 qp qr a1 a2 a3 a4 a5 a6 x).Perm (shT G a1 ++ (shT G a2 ++ icR G h0 qp qr a1 a2 a3 a4 a5 a6 x)) := icPerm
  have h := D_perm hp h
  refine D_addr ?_ h
  rw [e, ← e2, List.map_append, List.map_append, f1, f2]
  exact congrArg (fun z => (List.range 68).map (icA h0 qp qr a1 a2 a3 a4 a5 a6 x) ++ ((List.range 68).map (fun k => icA h0 qp qr a1 a2 a3 a4 a5 a6 x (68 + k)) ++ z)) rfl
end ICE
set_option maxRecDepth 20000 in
theorem ct_X9 (l : Launch) (G : Gx) (h0 : Nat) : CT l G 4 yX9_init cX9_init 2 [] h0 9 dX9 (wIce G) 173 1715 := by
  refine CT.of (lv := [(0, .ref h0)]) rfl (by decide) rfl rfl rfl (fun sz => ?_)
  refine c_ws (ws' := ([(h0, .inr (9, [.null, .null, .int 0, .null, .null, .null, .null, .null, .null]))] : va_W)) rfl ?_
  refine c_aload_n 0 cdX9_init_0 rfl rfl ?_
  refine c_obj iw_83 iw_84 iw_85 rfl cdX9_init_1 ?_
  refine c_aload_n 0 cdX9_init_4 rfl rfl ?_
  refine c_new (ci := 7) (fs := dX7) rfl inG7 tyX7_ok iw_86 iw_87 iw_61 dX7_ok (Nat.le_of_ble_eq_true rfl) (Nat.le_of_ble_eq_true rfl) cdX9_init_5 (fun q1 => ?_)
  refine c_dup cdX9_init_8 rfl ?_
  refine c_init (ct_X7s l G q1) oki_X7_init iw_88 rfl rfl rfl rfl (Nat.le_of_ble_eq_true rfl) (Nat.le_of_ble_eq_true rfl) cdX9_init_9 (fun a1 ea1 => ?_)
  subst ea1
  refine c_ws (ws' := ([(h0, .inr (9, [.null, .null, .int 0, .null, .null, .null, .null, .null, .null]))] : va_W) ++ shT G a1) rfl ?_
  refine c_putF (q0 := 0) (k := 0) (ty0 := tyX9) rfl rfl inG9 tyX9_ok nmX9 rfl iw_355 rfl rfl rfl rfl rfl rfl cdX9_init_12 ?_
  refine c_ws (ws' := ([(h0, .inr (9, [.ref (a1 0), .null, .int 0, .null, .null, .null, .null, .null, .null]))] : va_W) ++ shT G a1) rfl ?_
  refine c_aload_n 0 cdX9_init_15 rfl rfl ?_
  refine c_new (ci := 7) (fs := dX7) rfl inG7 tyX7_ok iw_86 iw_87 iw_61 dX7_ok (Nat.le_of_ble_eq_true rfl) (Nat.le_of_ble_eq_true rfl) cdX9_init_16 (fun q2 => ?_)
  refine c_dup cdX9_init_19 rfl ?_
  refine c_init (ct_X7s l G q2) oki_X7_init iw_88 rfl rfl rfl rfl (Nat.le_of_ble_eq_true rfl) (Nat.le_of_ble_eq_true rfl) cdX9_init_20 (fun a2 ea2 => ?_)
  subst ea2
  refine c_ws (ws' := ([(h0, .inr (9, [.ref (a1 0), .null, .int 0, .null, .null, .null, .null, .null, .null]))] : va_W) ++ (shT G a1 ++ shT G a2)) (List.append_assoc _ _ _) ?_
  refine c_putF (q0 := 0) (k := 1) (ty0 := tyX9) rfl rfl inG9 tyX9_ok nmX9 rfl iw_356 rfl rfl rfl rfl rfl rfl cdX9_init_23 ?_
  refine c_ws (ws' := ([(h0, .inr (9, [.ref (a1 0), .ref (a2 0), .int 0, .null, .null, .null, .null, .null, .null]))] : va_W) ++ (shT G a1 ++ shT G a2)) rfl ?_
  refine c_aload_n 0 cdX9_init_26 rfl rfl ?_
  refine c_new (ci := 0) (fs := dX0) rfl inG0 tyX0_ok iw_240 iw_241 iw_66 dX0_ok (Nat.le_of_ble_eq_true rfl) (Nat.le_of_ble_eq_true rfl) cdX9_init_27 (fun q3 => ?_)
  refine c_dup cdX9_init_30 rfl ?_
  refine c_aload_n 0 cdX9_init_31 rfl rfl ?_
  refine c_get (q0 := 0) (k := 0) rfl rfl rfl inG9 rfl iw_355 rfl cdX9_init_32 ?_
  refine c_init (ct_X0 l G q3 (a1 0)) oki_X0_init iw_242 rfl rfl rfl rfl (Nat.le_of_ble_eq_true rfl) (Nat.le_of_ble_eq_true rfl) cdX9_init_35 (fun a3 ea3 => ?_)
  subst ea3
  refine c_ws (ws' := ([(h0, .inr (9, [.ref (a1 0), .ref (a2 0), .int 0, .null, .null, .null, .null, .null, .null]))] : va_W) ++ ((shT G a1 ++ shT G a2) ++ wAhead G (a1 0) a3)) (List.append_assoc _ _ _) ?_
  refine c_putF (q0 := 0) (k := 3) (ty0 := tyX9) rfl rfl inG9 tyX9_ok nmX9 rfl iw_358 rfl rfl rfl rfl rfl rfl cdX9_init_38 ?_
  refine c_ws (ws' := ([(h0, .inr (9, [.ref (a1 0), .ref (a2 0), .int 0, .ref (a3 0), .null, .null, .null, .null, .null]))] : va_W) ++ ((shT G a1 ++ shT G a2) ++ wAhead G (a1 0) a3)) rfl ?_
  refine c_aload_n 0 cdX9_init_41 rfl rfl ?_
  refine c_new (ci := 6) (fs := dX6) rfl inG6 tyX6_ok iw_263 iw_264 iw_67 dX6_ok (Nat.le_of_ble_eq_true rfl) (Nat.le_of_ble_eq_true rfl) cdX9_init_42 (fun q4 => ?_)
  refine c_dup cdX9_init_45 rfl ?_
  refine c_aload_n 0 cdX9_init_46 rfl rfl ?_
  refine c_get (q0 := 0) (k := 0) rfl rfl rfl inG9 rfl iw_355 rfl cdX9_init_47 ?_
  refine c_aload_n 0 cdX9_init_50 rfl rfl ?_
  refine c_get (q0 := 0) (k := 3) rfl rfl rfl inG9 rfl iw_358 rfl cdX9_init_51 ?_
  refine c_init (ct_X6 l G q4 (a1 0) (a3 0)) oki_X6_init iw_265 rfl rfl rfl rfl (Nat.le_of_ble_eq_true rfl) (Nat.le_of_ble_eq_true rfl) cdX9_init_54 (fun a4 ea4 => ?_)
  subst ea4
  refine c_ws (ws' := ([(h0, .inr (9, [.ref (a1 0), .ref (a2 0), .int 0, .ref (a3 0), .null, .null, .null, .null, .null]))] : va_W) ++ (((shT G a1 ++ shT G a2) ++ wAhead G (a1 0) a3) ++ wRows G (a1 0) (a3 0) a4)) (List.append_assoc _ _ _) ?_
  refine c_putF (q0 := 0) (k := 4) (ty0 := tyX9) rfl rfl inG9 tyX9_ok nmX9 rfl iw_359 rfl rfl rfl rfl rfl rfl cdX9_init_57 ?_
  refine c_ws (ws' := ([(h0, .inr (9, [.ref (a1 0), .ref (a2 0), .int 0, .ref (a3 0), .ref (a4 0), .null, .null, .null, .null]))] : va_W) ++ (((shT G a1 ++ shT G a2) ++ wAhead G (a1 0) a3) ++ wRows G (a1 0) (a3 0) a4)) rfl ?_
  refine c_aload_n 0 cdX9_init_60 rfl rfl ?_
  refine c_new (ci := 2) (fs := dX2) rfl inG2 tyX2_ok iw_292 iw_293 iw_68 dX2_ok (Nat.le_of_ble_eq_true rfl) (Nat.le_of_ble_eq_true rfl) cdX9_init_61 (fun q5 => ?_)
  refine c_dup cdX9_init_64 rfl ?_
  refine c_aload_n 0 cdX9_init_65 rfl rfl ?_
  refine c_get (q0 := 0) (k := 0) rfl rfl rfl inG9 rfl iw_355 rfl cdX9_init_66 ?_
  refine c_getN (q0 := 1) (k := 13) rfl rfl rfl inG7 rfl iw_205 rfl cdX9_init_69 ?_
  refine c_init (ct_X2 l G q5 (a1 64)) oki_X2_init iw_294 rfl rfl rfl rfl (Nat.le_of_ble_eq_true rfl) (Nat.le_of_ble_eq_true rfl) cdX9_init_72 (fun a5 ea5 => ?_)
  subst ea5
  refine c_ws (ws' := ([(h0, .inr (9, [.ref (a1 0), .ref (a2 0), .int 0, .ref (a3 0), .ref (a4 0), .null, .null, .null, .null]))] : va_W) ++ ((((shT G a1 ++ shT G a2) ++ wAhead G (a1 0) a3) ++ wRows G (a1 0) (a3 0) a4) ++ wReader G (a1 64) a5)) (List.append_assoc _ _ _) ?_
  refine c_putF (q0 := 0) (k := 5) (ty0 := tyX9) rfl rfl inG9 tyX9_ok nmX9 rfl iw_360 rfl rfl rfl rfl rfl rfl cdX9_init_75 ?_
  refine c_ws (ws' := ([(h0, .inr (9, [.ref (a1 0), .ref (a2 0), .int 0, .ref (a3 0), .ref (a4 0), .ref (a5 0), .null, .null, .null]))] : va_W) ++ ((((shT G a1 ++ shT G a2) ++ wAhead G (a1 0) a3) ++ wRows G (a1 0) (a3 0) a4) ++ wReader G (a1 64) a5)) rfl ?_
  refine c_aload_n 0 cdX9_init_78 rfl rfl ?_
  refine c_new (ci := 8) (fs := dX8) rfl inG8 tyX8_ok iw_311 iw_312 iw_69 dX8_ok (Nat.le_of_ble_eq_true rfl) (Nat.le_of_ble_eq_true rfl) cdX9_init_79 (fun q6 => ?_)
  refine c_dup cdX9_init_82 rfl ?_
  refine c_initN (ct_X8 l G q6) oki_X8_init iw_313 rfl rfl rfl rfl (Nat.le_of_ble_eq_true rfl) (Nat.le_of_ble_eq_true rfl) cdX9_init_83 (fun a6 ea6 => ?_)
  subst ea6
  refine c_ws (ws' := ([(h0, .inr (9, [.ref (a1 0), .ref (a2 0), .int 0, .ref (a3 0), .ref (a4 0), .ref (a5 0), .null, .null, .null]))] : va_W) ++ (((((shT G a1 ++ shT G a2) ++ wAhead G (a1 0) a3) ++ wRows G (a1 0) (a3 0) a4) ++ wReader G (a1 64) a5) ++ wVoices G a6)) (List.append_assoc _ _ _) ?_
  refine c_putF (q0 := 0) (k := 6) (ty0 := tyX9) rfl rfl inG9 tyX9_ok nmX9 rfl iw_361 rfl rfl rfl rfl rfl rfl cdX9_init_86 ?_
  refine c_ws (ws' := ([(h0, .inr (9, [.ref (a1 0), .ref (a2 0), .int 0, .ref (a3 0), .ref (a4 0), .ref (a5 0), .ref (a6 0), .null, .null]))] : va_W) ++ (((((shT G a1 ++ shT G a2) ++ wAhead G (a1 0) a3) ++ wRows G (a1 0) (a3 0) a4) ++ wReader G (a1 64) a5) ++ wVoices G a6)) rfl ?_
  refine c_aload_n 0 cdX9_init_89 rfl rfl ?_
  refine c_iconst (v := 4) cdX9_init_90 (by decide +kernel) ?_
  refine c_newR (N := 4) (t := 3) rfl iw_337 (fun _ hN => hN.2.2.2) (by decide) (by decide +kernel) rfl (Nat.le_of_ble_eq_true rfl) (Nat.le_of_ble_eq_true rfl) cdX9_init_91 (fun q7 => ?_)
  refine c_rot ?_
  refine c_ws (ws' := ([(h0, .inr (9, [.ref (a1 0), .ref (a2 0), .int 0, .ref (a3 0), .ref (a4 0), .ref (a5 0), .ref (a6 0), .null, .null])), refs G 3 (q7) 4 (fun _ => none)] : va_W) ++ (((((shT G a1 ++ shT G a2) ++ wAhead G (a1 0) a3) ++ wRows G (a1 0) (a3 0) a4) ++ wReader G (a1 64) a5) ++ wVoices G a6)) rfl ?_
  refine c_putF (q0 := 0) (k := 7) (ty0 := tyX9) rfl rfl inG9 tyX9_ok nmX9 rfl iw_362 rfl rfl rfl rfl rfl rfl cdX9_init_94 ?_
  refine c_ws (ws' := ([(h0, .inr (9, [.ref (a1 0), .ref (a2 0), .int 0, .ref (a3 0), .ref (a4 0), .ref (a5 0), .ref (a6 0), .ref q7, .null])), refs G 3 (q7) 4 (fun _ => none)] : va_W) ++ (((((shT G a1 ++ shT G a2) ++ wAhead G (a1 0) a3) ++ wRows G (a1 0) (a3 0) a4) ++ wReader G (a1 64) a5) ++ wVoices G a6)) rfl ?_
  refine c_aload_n 0 cdX9_init_97 rfl rfl ?_
  refine c_bipush (v := 7) cdX9_init_98 (by decide +kernel) ?_
  refine c_newI (N := 7) iw_125 (by decide) (by decide +kernel) rfl (Nat.le_of_ble_eq_true rfl) (Nat.le_of_ble_eq_true rfl) cdX9_init_100 (fun q8 => ?_)
  refine c_rot ?_
  refine c_ws (ws' := ([(h0, .inr (9, [.ref (a1 0), .ref (a2 0), .int 0, .ref (a3 0), .ref (a4 0), .ref (a5 0), .ref (a6 0), .ref q7, .null])), refs G 3 (q7) 4 (fun _ => none), ints G (q8) 7 (fun _ => 0)] : va_W) ++ (((((shT G a1 ++ shT G a2) ++ wAhead G (a1 0) a3) ++ wRows G (a1 0) (a3 0) a4) ++ wReader G (a1 64) a5) ++ wVoices G a6)) rfl ?_
  refine c_putF (q0 := 0) (k := 8) (ty0 := tyX9) rfl rfl inG9 tyX9_ok nmX9 rfl iw_363 rfl rfl rfl rfl rfl rfl cdX9_init_102 ?_
  refine c_ws (ws' := ([(h0, .inr (9, [.ref (a1 0), .ref (a2 0), .int 0, .ref (a3 0), .ref (a4 0), .ref (a5 0), .ref (a6 0), .ref q7, .ref q8])), refs G 3 (q7) 4 (fun _ => none), ints G (q8) 7 (fun _ => 0)] : va_W) ++ (((((shT G a1 ++ shT G a2) ++ wAhead G (a1 0) a3) ++ wRows G (a1 0) (a3 0) a4) ++ wReader G (a1 64) a5) ++ wVoices G a6)) rfl ?_
  refine c_iconst (v := 0) cdX9_init_105 (by decide +kernel) ?_
  refine c_istore_n (lv' := [(1, .int 0), (0, .ref h0)]) cdX9_init_106 rfl rfl rfl ?_
  refine c_ws (ws' := (fun f => ([(h0, .inr (9, [.ref (a1 0), .ref (a2 0), .int 0, .ref (a3 0), .ref (a4 0), .ref (a5 0), .ref (a6 0), .ref q7, .ref q8])), refs G 3 (q7) 4 (f), ints G (q8) 7 (fun _ => 0)] : va_W)) (fun _ => none) ++ (((((shT G a1 ++ shT G a2) ++ wAhead G (a1 0) a3) ++ wRows G (a1 0) (a3 0) a4) ++ wReader G (a1 64) a5) ++ wVoices G a6)) rfl ?_
  refine c_loop (P := fun i ws c s => SC (kQ G sz h0 9 dX9 (wIce G)) l G (rmc 4 173 1715) cX9_init RX9 2 sz (kA h0 9 dX9 sz) 107 ((1, .int (nI i)) :: [(0, .ref h0)]) [] ws c s) (B := (fun f => ([(h0, .inr (9, [.ref (a1 0), .ref (a2 0), .int 0, .ref (a3 0), .ref (a4 0), .ref (a5 0), .ref (a6 0), .ref q7, .ref q8])), refs G 3 (q7) 4 (f), ints G (q8) 7 (fun _ => 0)] : va_W))) (wK := wPlate G) (n := 4) (dc := 3) (ds := 28) (c0 := 161) (s0 := 1603) (X0 := (((((shT G a1 ++ shT G a2) ++ wAhead G (a1 0) a3) ++ wRows G (a1 0) (a3 0) a4) ++ wReader G (a1 64) a5) ++ wVoices G a6)) (fun i f X hi kk => ?_) (fun xq hxq => ?_)
  · refine c_iload_n 0 cdX9_init_107 rfl rfl ?_
    refine c_iconst (v := 4) cdX9_init_108 (by decide +kernel) ?_
    refine c_icmpge (tgt := 131) cdX9_init_109 (by decide) (fun h => absurd h (show ¬ (4 : Int32) ≤ nI i from nI_ge (b := 4) (by omega) (by omega))) (fun _ => ?_)
    refine c_aload_n 1 cdX9_init_112 rfl rfl ?_
    refine c_get (q0 := 0) (k := 7) rfl rfl rfl inG9 rfl iw_362 rfl cdX9_init_113 ?_
    refine c_iload_n 0 cdX9_init_116 rfl rfl ?_
    refine c_new (ci := 4) (fs := dX4) rfl inG4 tyX4_ok iw_337 iw_339 iw_70 dX4_ok (by omega) (by omega) cdX9_init_117 (fun q59 => ?_)
    refine c_dup cdX9_init_120 rfl ?_
    refine c_initN (ct_X4 l G q59) oki_X4_init iw_340 rfl rfl rfl rfl (by omega) (by omega) cdX9_init_121 (fun a59 ea59 => ?_)
    subst ea59
    refine c_aast (q0 := 1) (t := 3) rfl rfl rfl rfl (inb_nI hi (by omega)) cdX9_init_124 ?_
    rw [show (nI i).toNatClampNeg = i from ix_nI (by omega)]
    refine c_ws (ws' := (fun f => ([(h0, .inr (9, [.ref (a1 0), .ref (a2 0), .int 0, .ref (a3 0), .ref (a4 0), .ref (a5 0), .ref (a6 0), .ref q7, .ref q8])), refs G 3 (q7) 4 (f), ints G (q8) 7 (fun _ => 0)] : va_W)) (va_up f i (some (a59 0))) ++ (X ++ wPlate G a59)) rfl ?_
    refine c_iinc (k := 0) (v := 1) (lv' := (1, .int (nI i + 1)) :: [(0, .ref h0)]) cdX9_init_125 rfl (by decide +kernel) rfl rfl ?_
    refine c_goto (tgt := 107) cdX9_init_128 (by decide) ?_
    refine c_eq (c2 := 161 + (i + 1) * 3) (s2 := 1603 + (i + 1) * 28) (by omega) (by omega) ?_
    rw [nI_1 i]
    exact kk a59
  obtain ⟨xxq, rfl⟩ := list_fn hxq
  refine c_ws (ws' := ([(h0, .inr (9, [.ref (a1 0), .ref (a2 0), .int 0, .ref (a3 0), .ref (a4 0), .ref (a5 0), .ref (a6 0), .ref q7, .ref q8])), refs G 3 (q7) 4 (aF ((List.range 4).map xxq)), ints G (q8) 7 (fun _ => 0)] : va_W) ++ ((((((shT G a1 ++ shT G a2) ++ wAhead G (a1 0) a3) ++ wRows G (a1 0) (a3 0) a4) ++ wReader G (a1 64) a5) ++ wVoices G a6) ++ ((List.range 4).map xxq).flatMap (wPlate G))) rfl ?_
  refine c_eq (c2 := 173) (s2 := 1715) rfl rfl ?_
  refine c_iload_n 0 cdX9_init_107 rfl rfl ?_
  refine c_iconst (v := 4) cdX9_init_108 (by decide +kernel) ?_
  refine c_icmpge (tgt := 131) cdX9_init_109 (by decide) (fun _ => ?_) (fun h => absurd (by decide) h)
  refine c_ret (wK := wIce G) (icB h0 q7 q8 a1 a2 a3 a4 a5 a6 xxq) rfl (fun H h => icP h) (fun h => icD h) (Nat.le_of_ble_eq_true rfl) (Nat.le_of_ble_eq_true rfl) cdX9_init_131
