/-! MAKING: loops, arrays' contents, worlds beside each other. -/
def aF (xs : List (Nat → Nat)) : Nat → Option Nat := fun j => (xs[j]?).map (fun ad => ad 0)
theorem aF_nil : aF [] = fun _ => none := rfl
theorem aF_up {xs : List (Nat → Nat)} {ad : Nat → Nat} {i : Nat} (h : xs.length = i) : va_up (aF xs) i (some (ad 0)) = aF (xs ++ [ad]) := by
  funext j
  unfold va_up aF
  by_cases e : j = i
  · subst e
    rw [List.getElem?_append_right (by omega), h, Nat.sub_self]; simp
  · by_cases h2 : j < i
    · rw [List.getElem?_append_left (by omega)]; simp [e]
    · rw [List.getElem?_eq_none (by omega), List.getElem?_eq_none (by simp; omega)]; simp [e]
theorem aF_range {n j : Nat} {x : Nat → Nat → Nat} (h : j < n) : aF ((List.range n).map x) j = some (x j 0) := by
  unfold aF
  rw [List.getElem?_map, List.getElem?_range h]; rfl
theorem list_fn {n : Nat} {xs : List (Nat → Nat)} (h : xs.length = n) : ∃ x : Nat → Nat → Nat, xs = (List.range n).map x := by
  refine ⟨fun j => xs.getD j (fun _ => 0), List.ext_getElem? fun i => ?_⟩
  rw [List.getElem?_map]
  by_cases hi : i < n
  · rw [List.getElem?_range hi, List.getElem?_eq_getElem (by omega)]
    simp [List.getD, List.getElem?_eq_getElem (show i < xs.length by omega)]
  · rw [List.getElem?_eq_none (by omega), List.getElem?_eq_none (by simpa using hi)]; rfl
theorem c_loop {wK : (Nat → Nat) → va_W} {B : (Nat → Option Nat) → va_W} {n dc ds c0 s0 : Nat} {P : Nat → va_W → Nat → Nat → Prop}
    (hbody : ∀ (i : Nat) (f : Nat → Option Nat) (X : va_W), i < n → (∀ ad : Nat → Nat, P (i + 1) (B (va_up f i (some (ad 0))) ++ (X ++ wK ad)) (c0 + (i + 1) * dc) (s0 + (i + 1) * ds)) → P i (B f ++ X) (c0 + i * dc) (s0 + i * ds))
    {X0 : va_W} (hexit : ∀ xs : List (Nat → Nat), xs.length = n → P n (B (aF xs) ++ (X0 ++ xs.flatMap wK)) (c0 + n * dc) (s0 + n * ds)) : P 0 (B (fun _ => none) ++ X0) c0 s0 := by
  have key : ∀ k i (xs : List (Nat → Nat)), xs.length = i → i + k = n → P i (B (aF xs) ++ (X0 ++ xs.flatMap wK)) (c0 + i * dc) (s0 + i * ds) := by
    intro k
    induction k with
    | zero => intro i xs hx hi; obtain rfl : i = n := (by omega); exact hexit xs hx
    | succ k ih =>
      intro i xs hx hi
      refine hbody i (aF xs) _ (by omega) (fun ad => ?_)
      have := ih (i + 1) (xs ++ [ad]) (by simp [hx]) (by omega)
      rw [aF_up hx]
      rw [List.flatMap_append, ← List.append_assoc] at this
      simpa using this
  have := key n 0 [] rfl (by omega)
  simpa [aF_nil] using this
theorem c_loopI {B : (Nat → Int32) → va_W} {n b0 : Nat} {v : Int32} {P : Nat → va_W → Prop} (hbody : ∀ (i : Nat) (f : Nat → Int32), i < n → P (i + 1) (B (upd f (b0 + i) v)) → P i (B f)) {f0 : Nat → Int32} (hexit : ∀ f : Nat → Int32, (∀ j, f j = if b0 ≤ j ∧ j < b0 + n then v else f0 j) → P n (B f)) : P 0 (B f0) := by
  have key : ∀ k i (f : Nat → Int32), (∀ j, f j = if b0 ≤ j ∧ j < b0 + i then v else f0 j) → i + k = n → P i (B f) := by
    intro k
    induction k with
    | zero => intro i f hf hi; obtain rfl : i = n := (by omega); exact hexit f hf
    | succ k ih =>
      intro i f hf hi
      refine hbody i f (by omega) (ih (i + 1) _ (fun j => ?_) (by omega))
      by_cases e : j = b0 + i
      · subst e
        rw [upd_s, if_pos (by omega)]
      · rw [upd_n e, hf j]
        by_cases h2 : b0 ≤ j ∧ j < b0 + i
        · rw [if_pos h2, if_pos (by omega)]
        · rw [if_neg h2, if_neg (by omega)]
  exact key n 0 f0 (fun j => by rw [if_neg (by omega)]) (by omega)
theorem arrV_cg {cA : ClassId} {n : Nat} {f g : Nat → Value} (h : ∀ j, j < n → f j = g j) : arrV cA n f = arrV cA n g := by
  unfold arrV
  congr 1
  refine Array.ext (by simp) (fun i h1 h2 => ?_)
  simp at h1
  simp [h i h1]
theorem P_mem {D : va_G} {cl : List vw_C} {ws : va_W} {H : Heap} : va_P D cl ws H ↔ ∀ x ∈ ws, va_at D cl x H := by
  constructor
  · intro h x hx
    obtain ⟨k, hk⟩ := List.mem_iff_getElem?.mp hx
    exact h k x hk
  · intro h k q hk
    exact h q (List.mem_of_getElem? hk)
theorem P_put {D : va_G} {cl : List vw_C} {ws : va_W} {H : Heap} {k : Nat} {x y : Nat × va_E} (h : va_P D cl ws H) (he : ws[k]? = some x) (hxy : va_at D cl x H → va_at D cl y H) : va_P D cl (ws.set k y) H := by
  intro i q hq
  rw [List.getElem?_set] at hq
  by_cases e : k = i
  · subst e
    rw [if_pos rfl] at hq
    split at hq
    · cases hq; exact hxy (h k x he)
    · cases hq
  · rw [if_neg e] at hq; exact h i q hq
theorem P_refs {G : Gx} {D : va_G} {cl : List vw_C} {ws : va_W} {H : Heap} {k t q n : Nat} {f g : Nat → Option Nat} (h : va_P D cl ws H) (he : ws[k]? = some (refs G t q n f)) (hf : ∀ j, j < n → f j = g j) : va_P D cl (ws.set k (refs G t q n g)) H := by
  refine P_put h he (fun z => ?_)
  have z : H[q]? = some (arrV (G.2.1 t) n (fun j => va_rf (f j))) := z
  show H[q]? = some (arrV (G.2.1 t) n (fun j => va_rf (g j)))
  rw [z, arrV_cg (fun j hj => by rw [hf j hj])]
theorem P_ints {G : Gx} {D : va_G} {cl : List vw_C} {ws : va_W} {H : Heap} {k q n : Nat} {f g : Nat → Int32} (h : va_P D cl ws H) (he : ws[k]? = some (ints G q n f)) (hf : ∀ j, j < n → f j = g j) : va_P D cl (ws.set k (ints G q n g)) H := by
  refine P_put h he (fun z => ?_)
  have z : H[q]? = some (arrV (G.2.1 0) n (fun j => .int (f j))) := z
  show H[q]? = some (arrV (G.2.1 0) n (fun j => .int (g j)))
  rw [z, arrV_cg (fun j hj => by rw [hf j hj])]
theorem D_put {A : Nat → Prop} {ws : va_W} {k a : Nat} {x y : va_E} (h : va_D A ws) (he : ws[k]? = some (a, x)) : va_D A (ws.set k (a, y)) := h.set he
theorem D_iff {A : Nat → Prop} {ws : va_W} : va_D A ws ↔ (ws.map Prod.fst).Nodup ∧ ∀ x ∈ ws, A x.1 := by
  constructor
  · rintro ⟨h1, h2⟩
    refine ⟨?_, fun x hx => ?_⟩
    · unfold List.Nodup
      rw [List.pairwise_iff_getElem]
      intro i j hi hj hij hne
      rw [List.length_map] at hi hj
      have := h1 i j ws[i] ws[j] (List.getElem?_eq_getElem hi) (List.getElem?_eq_getElem hj) (by simpa using hne)
      omega
    · obtain ⟨k, hk⟩ := List.mem_iff_getElem?.mp hx
      exact h2 k x hk
  · rintro ⟨h1, h2⟩
    refine ⟨fun i j p q hi hj hpq => ?_, fun k q hk => h2 q (List.mem_of_getElem? hk)⟩
    obtain ⟨hi2, ei⟩ := List.getElem?_eq_some_iff.mp hi
    obtain ⟨hj2, ej⟩ := List.getElem?_eq_some_iff.mp hj
    unfold List.Nodup at h1
    rw [List.pairwise_iff_getElem] at h1
    rcases Nat.lt_trichotomy i j with z | z | z
    · exact absurd (show (ws.map Prod.fst)[i]'(by simpa using hi2) = (ws.map Prod.fst)[j]'(by simpa using hj2) by simp [ei, ej, hpq]) (h1 i j _ _ z)
    · exact z
    · exact absurd (show (ws.map Prod.fst)[j]'(by simpa using hj2) = (ws.map Prod.fst)[i]'(by simpa using hi2) by simp [ei, ej, hpq]) (h1 j i _ _ z)
theorem D_perm {A : Nat → Prop} {ws ws' : va_W} (hp : ws.Perm ws') (h : va_D A ws) : va_D A ws' := by
  rw [D_iff] at h ⊢
  exact ⟨((hp.map Prod.fst).nodup_iff).mp h.1, fun x hx => h.2 x (hp.mem_iff.mpr hx)⟩
theorem P_perm {D : va_G} {cl : List vw_C} {ws ws' : va_W} {H : Heap} (hp : ws.Perm ws') (h : va_P D cl ws H) : va_P D cl ws' H := by
  rw [P_mem] at h ⊢
  exact fun x hx => h x (hp.mem_iff.mpr hx)
theorem D_addr {A : Nat → Prop} {ws ws' : va_W} (he : ws.map Prod.fst = ws'.map Prod.fst) (h : va_D A ws) : va_D A ws' := by
  rw [D_iff] at h ⊢
  refine ⟨he ▸ h.1, fun x hx => ?_⟩
  have : x.1 ∈ ws.map Prod.fst := by rw [he]; exact List.mem_map.mpr ⟨x, hx, rfl⟩
  obtain ⟨y, hy, e⟩ := List.mem_map.mp this
  rw [← e]; exact h.2 y hy
/-- the same world with another way to its addresses -/
abbrev gA (G : Gx) (ad : Nat → Nat) : Gx := (G.1, G.2.1, ad, G.2.2.2)
def okSh (n : Nat) (sh : Sh) : Bool := match sh with
  | .inl (.inl _) => true
  | .inl (.inr (_, b, st, m)) => (List.range m).all (fun j => decide (b + st * j < n))
  | .inr (_, fs) => fs.all (fun o => match o with | none => true | some q => decide (q < n))
theorem WS_to {lay : List Sh} {G : Gx} {a1 a2 : Nat → Nat} {M1 M2 : Mm} {n : Nat} (hok : lay.all (okSh n) = true) (ha : ∀ k, k < n → a1 k = a2 k) (hl : lay.length ≤ n) (hM : ∀ k, k < lay.length → M1 k = M2 k) {H : Heap} (h : va_P G.1 cls (WS lay (gA G a1) M1) H) : va_P G.1 cls (WS lay (gA G a2) M2) H := by
  intro k q hq
  have hk : k < lay.length := by have := (List.getElem?_eq_some_iff.mp hq).1; rwa [WS_len] at this
  have hsh := List.getElem?_eq_getElem hk
  rw [WS_get hsh] at hq
  have h1 := h k _ (WS_get hsh)
  cases hq
  have hok1 : okSh n lay[k] = true := (List.all_eq_true.mp hok) _ (List.getElem_mem hk)
  rw [hM k hk] at h1
  have hak : a1 k = a2 k := ha k (by omega)
  generalize lay[k] = sh at h1 hok1 ⊢
  show va_at G.1 cls (a2 k, cel (gA G a2) sh (M2 k)) H
  have h1 : va_at G.1 cls (a1 k, cel (gA G a1) sh (M2 k)) H := h1
  rw [hak] at h1
  rcases sh with (m | ⟨t, b, st, m⟩) | ⟨ci, fs⟩
  · exact h1
  · have z : H[a2 k]? = some (arrV (G.2.1 t) m (fun j => va_rf (some (a1 (b + st * j))))) := h1
    show H[a2 k]? = some (arrV (G.2.1 t) m (fun j => va_rf (some (a2 (b + st * j)))))
    rw [z, arrV_cg (fun j hj => by
      have := (List.all_eq_true.mp hok1) j (List.mem_range.mpr hj)
      rw [ha _ (of_decide_eq_true this)])]
  · have e : fs.mapIdx (fdv (gA G a1) (M2 k)) = fs.mapIdx (fdv (gA G a2) (M2 k)) := by
      refine List.ext_getElem? fun i => ?_
      rw [List.getElem?_mapIdx, List.getElem?_mapIdx]
      cases hi : fs[i]? with
      | none => rfl
      | some o =>
        cases o with
        | none => rfl
        | some q =>
          have := (List.all_eq_true.mp hok1) (some q) (List.mem_of_getElem? hi)
          have := ha q (of_decide_eq_true this)
          simp [fdv, this]
    have h1 : va_at G.1 cls (a2 k, .inr (ci, fs.mapIdx (fdv (gA G a1) (M2 k)))) H := h1
    rw [e] at h1
    exact h1
theorem WS_addr {lay : List Sh} {G : Gx} {M : Mm} : (WS lay G M).map Prod.fst = (List.range lay.length).map G.2.2.1 := by
  refine List.ext_getElem? fun i => ?_
  rw [List.getElem?_map, List.getElem?_map]
  by_cases h : i < lay.length
  · rw [WS_get (List.getElem?_eq_getElem h), List.getElem?_range h]; rfl
  · rw [List.getElem?_eq_none (by rw [WS_len]; omega), List.getElem?_eq_none (by simpa using h)]; rfl
/-- a stretch of a world, from b on -/
def WSo (b : Nat) (lay : List Sh) (G : Gx) (M : Mm) : va_W := lay.mapIdx (fun k sh => (G.2.2.1 (b + k), cel G sh (M (b + k))))
theorem WS_app {l1 l2 : List Sh} {G : Gx} {M : Mm} {n : Nat} (hn : l1.length = n) : WS (l1 ++ l2) G M = WS l1 G M ++ WSo n l2 G M := by
  subst hn
  unfold WS WSo
  rw [List.mapIdx_append]
  congr 1
  refine List.ext_getElem? fun i => ?_
  rw [List.getElem?_mapIdx, List.getElem?_mapIdx, Nat.add_comm]
theorem WSo_app {l1 l2 : List Sh} {G : Gx} {M : Mm} {b n : Nat} (hn : b + l1.length = n) : WSo b (l1 ++ l2) G M = WSo b l1 G M ++ WSo n l2 G M := by
  subst hn
  unfold WSo
  rw [List.mapIdx_append]
  congr 1
  refine List.ext_getElem? fun i => ?_
  rw [List.getElem?_mapIdx, List.getElem?_mapIdx, show b + (i + l1.length) = b + l1.length + i by omega]
def sft (b : Nat) (sh : Sh) : Sh := match sh with
  | .inl (.inl m) => .inl (.inl m)
  | .inl (.inr (t, b0, st, m)) => .inl (.inr (t, b + b0, st, m))
  | .inr (ci, fs) => .inr (ci, fs.map (fun o => o.map (fun q => b + q)))
theorem WS_sft {lay : List Sh} {G : Gx} {M : Mm} {b : Nat} : WS lay (gA G (fun k => G.2.2.1 (b + k))) (fun k => M (b + k)) = WSo b (lay.map (sft b)) G M := by
  unfold WS WSo
  refine List.ext_getElem? fun i => ?_
  rw [List.getElem?_mapIdx, List.getElem?_mapIdx, List.getElem?_map]
  cases hi : lay[i]? with
  | none => rfl
  | some sh =>
    show some (G.2.2.1 (b + i), cel (gA G (fun k => G.2.2.1 (b + k))) sh (M (b + i))) = some (G.2.2.1 (b + i), cel G (sft b sh) (M (b + i)))
    congr 2
    rcases sh with (m | ⟨t, b0, st, m⟩) | ⟨ci, fs⟩
    · rfl
    · show (Sum.inl (G.2.1 t, m, .inr (.inr (.inr (.inr (fun j => some (G.2.2.1 (b + (b0 + st * j)))))))) : va_E) = .inl (G.2.1 t, m, .inr (.inr (.inr (.inr (fun j => some (G.2.2.1 (b + b0 + st * j)))))))
      congr 7
      funext j
      rw [Nat.add_assoc]
    · show (Sum.inr (ci, fs.mapIdx (fdv (gA G (fun k => G.2.2.1 (b + k))) (M (b + i)))) : va_E) = .inr (ci, (fs.map (fun o => o.map (fun q => b + q))).mapIdx (fdv G (M (b + i))))
      congr 2
      refine List.ext_getElem? fun j => ?_
      rw [List.getElem?_mapIdx, List.getElem?_mapIdx, List.getElem?_map]
      cases fs[j]? with
      | none => rfl
      | some o => cases o <;> rfl
section CX
variable {Qf : Array Value → State → Outcome → State → Prop} {l : Launch} {G : Gx} {R : Room} {b : ByteArray} {own : String} {maxL sz : Nat} {A : Nat → Prop} {pc : Nat} {lv : List (Nat × Value)} {st : List Value} {ws : va_W} {cells slots : Nat}
theorem c_eq {c2 s2 : Nat} (h1 : cells = c2) (h2 : slots = s2) (kk : SC Qf l G R b own maxL sz A pc lv st ws c2 s2) : SC Qf l G R b own maxL sz A pc lv st ws cells slots := by
  subst h1; subst h2; exact kk
theorem c_perm {ws' : va_W} (hp : ws.Perm ws') (kk : SC Qf l G R b own maxL sz A pc lv st ws' cells slots) : SC Qf l G R b own maxL sz A pc lv st ws cells slots := by
  intro p e s m args below meth c H locs ls Cc hP hD hS hl
  exact kk p e s m args below meth c H locs ls Cc (P_perm hp hP) (D_perm hp hD) hS hl
theorem c_rot {F S C : va_W} (kk : SC Qf l G R b own maxL sz A pc lv st ((F ++ C) ++ S) cells slots) : SC Qf l G R b own maxL sz A pc lv st ((F ++ S) ++ C) cells slots := by
  refine c_perm ?_ kk
  rw [List.append_assoc, List.append_assoc]
  exact List.Perm.append_left F List.perm_append_comm
end CX
-- worlds, cell by cell
def fdr (G : Gx) (f : Nat → Int32) : Nat → List (Option Nat) → List Value
  | _, [] => []
  | j, o :: l => fdv G f j o :: fdr G f (j + 1) l
theorem fdr_eq {G : Gx} {f : Nat → Int32} : ∀ (fs : List (Option Nat)) (j : Nat), fs.mapIdx (fun i o => fdv G f (j + i) o) = fdr G f j fs
  | [], _ => rfl
  | o :: l, j => by
    rw [List.mapIdx_cons]
    show fdv G f (j + 0) o :: _ = fdv G f j o :: fdr G f (j + 1) l
    rw [← fdr_eq l (j + 1), Nat.add_zero]
    congr 2
    funext i o
    rw [show j + (i + 1) = j + 1 + i by omega]
def celr (G : Gx) (sh : Sh) (f : Nat → Int32) : va_E := match sh with
  | .inl (.inl n) => .inl (G.2.1 0, n, .inl f)
  | .inl (.inr (t, b, st, n)) => .inl (G.2.1 t, n, .inr (.inr (.inr (.inr (fun j => some (G.2.2.1 (b + st * j)))))))
  | .inr (ci, fs) => .inr (ci, fdr G f 0 fs)
theorem cel_r {G : Gx} {sh : Sh} {f : Nat → Int32} : cel G sh f = celr G sh f := by
  rcases sh with (m | ⟨t, b0, st, m⟩) | ⟨ci, fs⟩
  · rfl
  · rfl
  · show (Sum.inr (ci, fs.mapIdx (fdv G f)) : va_E) = .inr (ci, fdr G f 0 fs)
    rw [← fdr_eq fs 0]
    congr 3
    funext i o
    rw [Nat.zero_add]
def WSr (G : Gx) (M : Mm) : Nat → List Sh → va_W
  | _, [] => []
  | b, sh :: l => (G.2.2.1 b, celr G sh (M b)) :: WSr G M (b + 1) l
theorem WSo_r {G : Gx} {M : Mm} : ∀ (lay : List Sh) (b : Nat), WSo b lay G M = WSr G M b lay
  | [], _ => rfl
  | sh :: l, b => by
    unfold WSo
    rw [List.mapIdx_cons]
    show (G.2.2.1 (b + 0), cel G sh (M (b + 0))) :: _ = (G.2.2.1 b, celr G sh (M b)) :: WSr G M (b + 1) l
    rw [← WSo_r l (b + 1), Nat.add_zero, cel_r]
    congr 1
    unfold WSo
    congr 1
    funext k sh
    rw [show b + (k + 1) = b + 1 + k by omega]
theorem WS_r (lay : List Sh) (G : Gx) (M : Mm) : WS lay G M = WSr G M 0 lay := by
  rw [← WSo_r lay 0]
  unfold WS WSo
  congr 1
  funext k sh
  rw [Nat.zero_add]
