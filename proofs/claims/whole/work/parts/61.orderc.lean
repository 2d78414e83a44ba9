/-! PURE 32: order, the class. -/
theorem c_chosen {n c t : Nat} (hn : n ≤ 4) (hc : c < 256) (ht : t < n) (M : Mm) : fX6_chosen (nI c) (nI t) (nI n) M = some (nI (dig n c t), M) := by
  unfold fX6_chosen dig
  have e : (nI n - 1) - nI t = nI (n - 1 - t) := by
    rw [show (1 : Int32) = nI 1 from rfl, pk_sub (by omega), pk_sub (by omega)]
  have := dig_all ⟨c, hc⟩ ⟨n - 1 - t, by omega⟩
  dsimp only at this
  rw [e, this]
def sumT (n c : Nat) (tab : Nat → Nat) : Nat → Nat → Nat
  | _, 0 => 0
  | t, m + 1 => tab (dig n c t * n + t) + sumT n c tab (t + 1) m
theorem dig_lt (n c t : Nat) : dig n c t < 4 := by unfold dig; omega
theorem dn_le {n d t : Nat} (hn : n ≤ 4) (hd : d < n) (ht : t < n) : d * n + t < n * n := by
  rcases (show n = 0 ∨ n = 1 ∨ n = 2 ∨ n = 3 ∨ n = 4 by omega) with rfl | rfl | rfl | rfl | rfl <;> omega
theorem nn_le {n : Nat} (hn : n ≤ 4) : n * n ≤ 16 := by
  rcases (show n = 0 ∨ n = 1 ∨ n = 2 ∨ n = 3 ∨ n = 4 by omega) with rfl | rfl | rfl | rfl | rfl <;> omega
theorem c_cor {n c : Nat} (hn : n ≤ 4) (hc : c < 256) {C : Mm} {tab : Nat → Nat} (h1 : C 149 1 = nI (n * n)) (h2 : ∀ j, j < n * n → C 150 j = nI (tab j)) : ∀ (m f t mask acc : Nat), m < f → t + m = n → mask < 16 → fX6_clearOfRow_L8 (nI c) (nI n) f (nI t) (nI mask) (nI acc) C = some (if okc n c m t mask = true then nI (acc + sumT n c tab t m) else -1, C) := by
  have hnn := nn_le hn
  intro m
  induction m with
  | zero =>
    intro f t mask acc hf ht hm
    obtain ⟨g, rfl⟩ : ∃ g, f = g + 1 := ⟨f - 1, by omega⟩
    unfold fX6_clearOfRow_L8 fX6_clearOfRow_L8b fX6_clearOfRow_B73
    rw [if_pos (nI_le (by omega) (by omega))]
    rfl
  | succ m ih =>
    intro f t mask acc hf ht hm
    obtain ⟨g, rfl⟩ : ∃ g, f = g + 1 := ⟨f - 1, by omega⟩
    have hd := dig_lt n c t
    obtain ⟨q1, q2, q3⟩ := bit_or ⟨mask, hm⟩ ⟨dig n c t, hd⟩
    dsimp only at q1 q2 q3
    unfold fX6_clearOfRow_L8 fX6_clearOfRow_L8b fX6_clearOfRow_B39
    rw [if_neg (show ¬ nI n ≤ nI t from nI_ge (by omega) (by omega)), c_chosen hn hc (by omega), bd_s]
    by_cases hle : n ≤ dig n c t
    · have ho : okc n c (m + 1) t mask = false := by simp only [okc]; rw [if_pos hle]
      rw [if_pos (nI_le hle (by omega)), ho, if_neg (by decide)]
    · rw [if_neg (show ¬ nI n ≤ nI (dig n c t) from nI_ge (by omega) (by omega))]
      by_cases hb : mask.testBit (dig n c t) = true
      · have ho : okc n c (m + 1) t mask = false := by simp only [okc]; rw [if_neg hle, if_pos hb]
        rw [if_neg (show ¬ (nI mask &&& ((1 : Int32) <<< (nI (dig n c t) &&& 31)) = 0) from fun z => by rw [q1.mp z] at hb; exact absurd hb (by decide)), ho, if_neg (by decide)]
      · have hb' : mask.testBit (dig n c t) = false := by simpa using hb
        have hlt := dn_le hn (show dig n c t < n by omega) (show t < n by omega)
        have hcap := cap_all.2.1
        have ho : okc n c (m + 1) t mask = okc n c m (t + 1) (mask ||| 2 ^ dig n c t) := by simp only [okc]; rw [if_neg hle, if_neg hb]
        rw [if_pos (q1.mpr hb'), ho, show sumT n c tab t (m + 1) = tab (dig n c t * n + t) + sumT n c tab (t + 1) m from rfl, lt_e, q2, pk_mul, nI_add, e_at (k := 149) (n := n * n) (by decide) h1 (by omega) (by omega), bd_s, if_pos hlt, show 149 + 1 = 150 from rfl, h2 _ hlt, lt_e, nI_add, show nI t + 1 = nI (t + 1) from nI_1 t, ih g (t + 1) (mask ||| 2 ^ dig n c t) (acc + tab (dig n c t * n + t)) (by omega) (by omega) q3, Nat.add_assoc]
theorem sumC_cg {s : Sx} {v : Nat} {r r' : Nat → Nat} : ∀ (m t : Nat), (∀ i, t ≤ i → i < t + m → r i = r' i) → sumC s v r t m = sumC s v r' t m
  | 0, _, _ => rfl
  | m + 1, t, h => by
    simp only [sumC, h t (by omega) (by omega), sumC_cg m (t + 1) (fun i h1 h2 => h i (by omega) (by omega))]
theorem sumC_le {s : Sx} {v : Nat} (hv : v ≤ 20) {r : Nat → Nat} : ∀ (m t : Nat), sumC s v r t m ≤ 20 * m
  | 0, _ => Nat.le_refl 0
  | m + 1, t => by
    have h1 := sumC_le hv (s := s) (r := r) m (t + 1)
    have h2 := ct_le (s := s) (v := v) (p := r t) (t := t)
    simp only [sumC]; omega
def tabF (s : Sx) (v n : Nat) (fl : List Nat) : Nat → Nat := fun j => ct s v (fl.getD (j / n) 0) (j % n)
theorem tabF_at {s : Sx} {v n d t : Nat} {fl : List Nat} (hn : n ≤ 4) (ht : t < n) : tabF s v n fl (d * n + t) = ct s v (fl.getD d 0) t := by
  unfold tabF
  have h1 : (d * n + t) / n = d := by
    rcases (show n = 1 ∨ n = 2 ∨ n = 3 ∨ n = 4 by omega) with rfl | rfl | rfl | rfl <;> omega
  have h2 : (d * n + t) % n = t := by
    rcases (show n = 1 ∨ n = 2 ∨ n = 3 ∨ n = 4 by omega) with rfl | rfl | rfl | rfl <;> omega
  rw [h1, h2]
theorem sumT_C {s : Sx} {v n c : Nat} {fl : List Nat} (hn : n ≤ 4) : ∀ (m t : Nat), t + m ≤ n → sumT n c (tabF s v n fl) t m = sumC s v (fun i => fl.getD (dig n c i) 0) t m
  | 0, _, _ => rfl
  | m + 1, t, h => by
    simp only [sumT, sumC, tabF_at hn (show t < n by omega), sumT_C hn m (t + 1) (by omega)]
def upS (s : Sx) (v n : Nat) (b : Option (Nat × List Nat)) (r : List Nat) : Option (Nat × List Nat) :=
  match b with
  | none => some (sumC s v (fun i => r.getD i 0) 0 n, r)
  | some (y, r') => if sumC s v (fun i => r.getD i 0) 0 n ≤ y then some (y, r') else some (sumC s v (fun i => r.getD i 0) 0 n, r)
def upC (s : Sx) (v n : Nat) (F : Nat → Bool) (b : Option (Nat × Nat)) (c : Nat) : Option (Nat × Nat) :=
  if okc n c n 0 0 = true then
    match b with
    | none => some (sumC s v (fun i => (rowC F n c).getD i 0) 0 n, c)
    | some (y, c') => if sumC s v (fun i => (rowC F n c).getD i 0) 0 n ≤ y then some (y, c') else some (sumC s v (fun i => (rowC F n c).getD i 0) 0 n, c)
  else b
def mpC (F : Nat → Bool) (n : Nat) (b : Option (Nat × Nat)) : Option (Nat × List Nat) := b.map fun q => (q.1, rowC F n q.2)
theorem fold_mp {s : Sx} {v n : Nat} {F : Nat → Bool} : ∀ (L : List Nat) (b : Option (Nat × Nat)), mpC F n (L.foldl (upC s v n F) b) = ((L.filter fun c => okc n c n 0 0).map (rowC F n)).foldl (upS s v n) (mpC F n b)
  | [], b => rfl
  | c :: L, b => by
    rw [List.foldl_cons, fold_mp L, List.filter_cons]
    by_cases h : okc n c n 0 0 = true
    · rw [if_pos h, List.map_cons, List.foldl_cons]
      congr 1
      unfold upC upS mpC
      rw [if_pos h]
      cases b with
      | none => rfl
      | some q =>
        obtain ⟨y, c'⟩ := q
        dsimp only [Option.map]
        by_cases hle : sumC s v (fun i => (rowC F n c).getD i 0) 0 n ≤ y
        · rw [if_pos hle, if_pos hle]
        · rw [if_neg hle, if_neg hle]
    · rw [if_neg h]
      unfold upC
      rw [if_neg h]
def repC (b : Option (Nat × Nat)) (C : Mm) (w : Int32) : Prop :=
  match b with
  | none => C 146 5 = -1 ∧ w = 0
  | some (y, c) => C 146 5 = nI y ∧ y ≤ 80 ∧ w = nI c ∧ c < 256
theorem rowC_at {F : Nat → Bool} {n c i : Nat} (hi : i < n) : (rowC F n c).getD i 0 = (flL F).getD (dig n c i) 0 := by
  unfold rowC
  rw [List.getD_eq_getElem?_getD, List.getElem?_map, List.getElem?_range hi]; rfl
theorem c_best_loop {s : Sx} {v n : Nat} (hn : n ≤ 4) (hv : v ≤ 20) (F : Nat → Bool) : ∀ (m f c : Nat) (b : Option (Nat × Nat)) (w : Int32) (C : Mm), m < f → c + m = 4 ^ n → C 149 1 = nI (n * n) → (∀ j, j < n * n → C 150 j = nI (tabF s v n (flL F) j)) → repC b C w → ∃ C' w', fX6_findBest_L17 (nI n) f (nI c) w C = fX6_findBest_B57 w' (nI n) C' ∧ repC ((List.range' c m).foldl (upC s v n F) b) C' w' ∧ ∀ a, a ≠ 146 → C' a = C a := by
  have hFU := FU_big
  obtain ⟨hp1, hp2⟩ := pow_all ⟨n, by omega⟩
  dsimp only at hp1 hp2
  intro m
  induction m with
  | zero =>
    intro f c b w C hf hc h1 h2 hr
    obtain ⟨g, rfl⟩ : ∃ g, f = g + 1 := ⟨f - 1, by omega⟩
    unfold fX6_findBest_L17 fX6_findBest_L17b
    rw [hp1, if_pos (nI_le (by omega) (by omega))]
    exact ⟨C, w, rfl, hr, fun _ _ => rfl⟩
  | succ m ih =>
    intro f c b w C hf hc h1 h2 hr
    obtain ⟨g, rfl⟩ : ∃ g, f = g + 1 := ⟨f - 1, by omega⟩
    have hcor := c_cor hn (show c < 256 by omega) h1 h2 n FU 0 0 0 (by omega) (by omega) (by omega)
    rw [sumT_C hn n 0 (by omega), Nat.zero_add] at hcor
    have hs := sumC_le hv (s := s) (r := fun i => (flL F).getD (dig n c i) 0) n 0
    have hrow : sumC s v (fun i => (rowC F n c).getD i 0) 0 n = sumC s v (fun i => (flL F).getD (dig n c i) 0) 0 n := sumC_cg n 0 (fun i _ hi => rowC_at (by omega))
    rw [← hrow] at hcor hs
    rw [List.range'_succ, List.foldl_cons]
    unfold fX6_findBest_L17 fX6_findBest_L17b fX6_findBest_B51 fX6_clearOfRow
    rw [hp1, if_neg (show ¬ nI (4 ^ n) ≤ nI c from nI_ge (by omega) (by omega)), show (0 : Int32) = nI 0 from rfl, hcor, bd_s, show nI c + 1 = nI (c + 1) from nI_1 c, lt_e]
    have skip : ∀ b', b' = b → ∃ C' w', fX6_findBest_L17 (nI n) g (nI (c + 1)) w C = fX6_findBest_B57 w' (nI n) C' ∧ repC ((List.range' (c + 1) m).foldl (upC s v n F) b') C' w' ∧ ∀ a, a ≠ 146 → C' a = C a := fun b' e => by
      subst e; exact ih g (c + 1) b' w C (by omega) (by omega) h1 h2 hr
    have take : ∀ x, x ≤ 80 → ∃ C' w', fX6_findBest_L17 (nI n) g (nI (c + 1)) (nI c) (wr C 146 5 (nI x)) = fX6_findBest_B57 w' (nI n) C' ∧ repC ((List.range' (c + 1) m).foldl (upC s v n F) (some (x, c))) C' w' ∧ ∀ a, a ≠ 146 → C' a = C a := fun x hx => by
      obtain ⟨C', w', s1, s2, s3⟩ := ih g (c + 1) (some (x, c)) (nI c) (wr C 146 5 (nI x)) (by omega) (by omega) (by rw [wr_c (by decide)]; exact h1) (fun j hj => by rw [wr_c (by decide)]; exact h2 j hj) ⟨wr_s, hx, rfl, by omega⟩
      exact ⟨C', w', s1, s2, fun a ha => by rw [s3 a ha, wr_c ha]⟩
    by_cases hok : okc n c n 0 0 = true
    · rw [if_pos hok]
      cases b with
      | none =>
        have e1 : C 146 5 = -1 := hr.1
        have hu : upC s v n F none c = some (sumC s v (fun i => (rowC F n c).getD i 0) 0 n, c) := by unfold upC; rw [if_pos hok]
        rw [e1, if_neg (show ¬ nI (sumC s v (fun i => (rowC F n c).getD i 0) 0 n) ≤ -1 from fun q => by
          have := nI_pos' (n := sumC s v (fun i => (rowC F n c).getD i 0) 0 n) (by omega)
          rw [Int32.le_iff_toInt_le] at q this
          rw [show (-1 : Int32).toInt = -1 by decide] at q
          rw [show (0 : Int32).toInt = 0 by decide] at this
          omega), hu]
        exact take _ (by omega)
      | some q =>
        obtain ⟨y, c'⟩ := q
        obtain ⟨e1, e2, e3, e4⟩ := hr
        have hu : upC s v n F (some (y, c')) c = if sumC s v (fun i => (rowC F n c).getD i 0) 0 n ≤ y then some (y, c') else some (sumC s v (fun i => (rowC F n c).getD i 0) 0 n, c) := by unfold upC; rw [if_pos hok]
        rw [e1, hu]
        by_cases hle : sumC s v (fun i => (rowC F n c).getD i 0) 0 n ≤ y
        · rw [if_pos (nI_le hle (by omega)), if_pos hle]; exact skip _ rfl
        · rw [if_neg (show ¬ nI (sumC s v (fun i => (rowC F n c).getD i 0) 0 n) ≤ nI y from nI_ge (by omega) (by omega)), if_neg hle]; exact take _ (by omega)
    · have hu : upC s v n F b c = b := by unfold upC; rw [if_neg hok]
      rw [if_neg hok, hu]
      cases b with
      | none =>
        have e1 : C 146 5 = -1 := hr.1
        rw [e1, if_pos (show (-1 : Int32) ≤ -1 by decide)]; exact skip _ rfl
      | some q =>
        obtain ⟨y, c'⟩ := q
        have e1 : C 146 5 = nI y := hr.1
        have e2 : y ≤ 80 := hr.2.1
        rw [e1, if_pos (show (-1 : Int32) ≤ nI y from by
          have := nI_pos' (n := y) (by omega)
          rw [Int32.le_iff_toInt_le] at this ⊢
          rw [show (-1 : Int32).toInt = -1 by decide]
          rw [show (0 : Int32).toInt = 0 by decide] at this
          omega)]; exact skip _ rfl
