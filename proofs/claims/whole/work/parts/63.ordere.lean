/-! PURE 34: order, the reference's tries. -/
def repM (n : Nat) (b : Option (Nat × List Nat)) (D : Mm) : Prop :=
  match b with
  | none => D 0 16 = -1
  | some (y, r) => D 0 16 = nI y ∧ y ≤ 80 ∧ ∀ j, j < n → D 10 j = nI (r.getD j 0)
def FM (D D' : Mm) : Prop := (∀ a, a ≠ 0 → a ≠ 1 → a ≠ 3 → a ≠ 6 → a ≠ 7 → a ≠ 9 → a ≠ 10 → D' a = D a) ∧ ∀ j, j ≠ 16 → D' 0 j = D 0 j
theorem FM.rf (D : Mm) : FM D D := ⟨fun _ _ _ _ _ _ _ _ => rfl, fun _ _ => rfl⟩
theorem FM.tr {A B C : Mm} (h : FM A B) (h2 : FM B C) : FM A C := ⟨fun a a0 a1 a3 a6 a7 a9 a10 => (h2.1 a a0 a1 a3 a6 a7 a9 a10).trans (h.1 a a0 a1 a3 a6 a7 a9 a10), fun j hj => (h2.2 j hj).trans (h.2 j hj)⟩
theorem cp_loop {z : Int32 → Int32 → Mm → Option (Unit × Mm)} {x n : Nat} (hn : n ≤ 4) : ∀ (m f j : Nat) (D : Mm), m < f → j + m = n → D 0 15 = nI n → ¬ nI x ≤ D 0 16 → ∃ D', fX10_tries_L17 z (nI x) f (nI j) D = some ((), wr D' 0 16 (nI x)) ∧ (∀ i, j ≤ i → i < n → D' 10 i = D 9 i) ∧ (∀ i, i < j → D' 10 i = D 10 i) ∧ ∀ a, a ≠ 10 → D' a = D a := by
  intro m
  induction m with
  | zero =>
    intro f j D hf hj h15 hx
    obtain ⟨g, rfl⟩ : ∃ g, f = g + 1 := ⟨f - 1, by omega⟩
    unfold fX10_tries_L17 fX10_tries_L17b fX10_tries_B54 fX10_tries_B71
    rw [h15, if_pos (nI_le (by omega) (by omega)), if_neg hx, lt_e]
    exact ⟨D, rfl, fun i h1 h2 => by omega, fun _ _ => rfl, fun _ _ => rfl⟩
  | succ m ih =>
    intro f j D hf hj h15 hx
    obtain ⟨g, rfl⟩ : ∃ g, f = g + 1 := ⟨f - 1, by omega⟩
    unfold fX10_tries_L17 fX10_tries_L17b
    rw [h15, if_neg (show ¬ nI n ≤ nI j from nI_ge (by omega) (by omega)), if_neg hx, inb_nI (by omega) (by omega), gd_t, ix_nI (by omega), lt_e, show nI j + 1 = nI (j + 1) from nI_1 j]
    obtain ⟨D', s1, s2, s3, s4⟩ := ih g (j + 1) (wr D 10 j (D 9 j)) (by omega) (by omega) (by rw [wr_c (by decide)]; exact h15) (by rw [wr_c (by decide)]; exact hx)
    refine ⟨D', s1, fun i h1 h2 => ?_, fun i hi => ?_, fun a ha => by rw [s4 a ha, wr_c ha]⟩
    · by_cases e : i = j
      · subst e; rw [s3 i (by omega), wr_s]
      · rw [s2 i (by omega) h2, wr_c (by decide)]
    · rw [s3 i (by omega), wr_j (by omega)]
theorem m_leaf {s0 : Sx} (h0 : SI s0) {v n : Nat} (hv : v ≤ 20) (hn : n ≤ 4) (r : List Nat) (hr : ∀ i, i < n → r.getD i 0 < 4) (hinj : ∀ i j, i < n → j < n → r.getD i 0 = r.getD j 0 → i = j) (d : Nat) {D : Mm} {b : Option (Nat × List Nat)} (h15 : D 0 15 = nI n) (h9 : ∀ j, j < n → D 9 j = nI (r.getD j 0)) (he : EqS (D 1) s0) (hb : repM n b D) : ∃ D', grX10_tries (d + 1) (nI n) (nI v) D = some ((), D') ∧ EqS (D' 1) s0 ∧ repM n (upS s0 v n b r) D' ∧ D' 9 = D 9 ∧ FM D D' := by
  have hFU := FU_big
  obtain ⟨D1, e1, e2, e3⟩ := m_clearBy h0 hv hn (fun i => r.getD i 0) hr hinj h15 h9 he
  have hs := sumC_le hv (s := s0) (r := fun i => r.getD i 0) n 0
  generalize hx : sumC s0 v (fun i => r.getD i 0) 0 n = x at *
  have d0 : D1 0 = D 0 := e3 0 (by decide) (by decide) (by decide) (by decide)
  have d9 : D1 9 = D 9 := e3 9 (by decide) (by decide) (by decide) (by decide)
  have d10 : D1 10 = D 10 := e3 10 (by decide) (by decide) (by decide) (by decide)
  have fm1 : FM D D1 := ⟨fun a _ a1 a3 a6 a7 _ _ => e3 a a1 a3 a6 a7, fun j _ => by rw [d0]⟩
  have hstep : grX10_tries (d + 1) (nI n) (nI v) D = fX10_tries_L17 (grX10_tries d) (nI x) FU 0 D1 := by
    show fX10_tries_b (grX10_tries d) (nI n) (nI v) D = _
    unfold fX10_tries_b
    rw [h15, if_pos rfl, e1, bd_s]
  rw [hstep]
  have keep : nI x ≤ D 0 16 → ∃ D', fX10_tries_L17 (grX10_tries d) (nI x) FU 0 D1 = some ((), D') ∧ EqS (D' 1) s0 ∧ D' 0 16 = D 0 16 ∧ D' 10 = D 10 ∧ D' 9 = D 9 ∧ FM D D' := fun hle => by
    obtain ⟨g, hg⟩ : ∃ g, FU = g + 1 := ⟨FU - 1, by omega⟩
    rw [hg]
    unfold fX10_tries_L17 fX10_tries_L17b fX10_tries_B54 fX10_tries_B71
    rw [d0, if_pos hle, if_pos hle, ite_self, lt_e]
    exact ⟨_, rfl, by rw [wr_c (by decide)]; exact e2, by rw [wr_s], by rw [wr_c (by decide)]; exact d10, by rw [wr_c (by decide)]; exact d9, fm1.tr ⟨fun a a0 _ _ _ _ _ _ => wr_c a0, fun j hj => wr_j hj⟩⟩
  have take : ¬ nI x ≤ D 0 16 → ∃ D', fX10_tries_L17 (grX10_tries d) (nI x) FU 0 D1 = some ((), D') ∧ EqS (D' 1) s0 ∧ repM n (some (x, r)) D' ∧ D' 9 = D 9 ∧ FM D D' := fun hle => by
    obtain ⟨D2, s1, s2, s3, s4⟩ := cp_loop (z := grX10_tries d) (x := x) hn n FU 0 D1 (by omega) (by omega) (by rw [d0]; exact h15) (by rw [d0]; exact hle)
    refine ⟨_, s1, by rw [wr_c (by decide), s4 1 (by decide)]; exact e2, ⟨wr_s, by omega, fun j hj => ?_⟩, by rw [wr_c (by decide), s4 9 (by decide)]; exact d9, fm1.tr ⟨fun a a0 _ _ _ _ _ a10 => by rw [wr_c a0, s4 a a10], fun j hj => by rw [wr_j hj, s4 0 (by decide)]⟩⟩
    rw [wr_c (by decide), s2 j (by omega) hj, d9, h9 j hj]
  unfold upS
  cases b with
  | none =>
    have e16 : D 0 16 = -1 := hb
    dsimp only
    rw [hx]
    exact take (by
      rw [e16]; intro q
      have := nI_pos' (n := x) (by omega)
      rw [Int32.le_iff_toInt_le] at q this
      rw [show (-1 : Int32).toInt = -1 by decide] at q
      rw [show (0 : Int32).toInt = 0 by decide] at this
      omega)
  | some q =>
    obtain ⟨y, r'⟩ := q
    obtain ⟨b1, b2, b3⟩ := hb
    dsimp only
    rw [hx]
    by_cases hle : x ≤ y
    · rw [if_pos hle]
      obtain ⟨D', k1, k2, k3, k4, k5, k6⟩ := keep (by rw [b1]; exact nI_le hle (by omega))
      exact ⟨D', k1, k2, ⟨by rw [k3]; exact b1, b2, fun j hj => by rw [k4]; exact b3 j hj⟩, k5, k6⟩
    · rw [if_neg hle]
      exact take (by rw [b1]; exact nI_ge (by omega) (by omega))
def noU (pre : List Nat) (p : Nat) : Nat → Nat → Bool
  | _, 0 => true
  | j, m + 1 => (!decide (pre.getD j 0 = p)) && noU pre p (j + 1) m
theorem m_used {z : Int32 → Int32 → Mm → Option (Unit × Mm)} {q77 : Int32 → Mm → Option (Unit × Mm)} {pre : List Nat} {p : Nat} {v : Int32} (hp : p < 4) (hpre : ∀ i, i < pre.length → pre.getD i 0 < 4) (hlen : pre.length ≤ 4) {D : Mm} (h9 : ∀ j, j < pre.length → D 9 j = nI (pre.getD j 0)) : ∀ (m f j : Nat) (fl : Bool), m < f → j + m = pre.length → fX10_tries_L101 z q77 (nI p) (nI pre.length) v f (nI j) (bi fl) D = fX10_tries_B136 z q77 (bi (fl && noU pre p j m)) (nI p) (nI pre.length) v D := by
  intro m
  induction m with
  | zero =>
    intro f j fl hf hj
    obtain ⟨g, rfl⟩ : ∃ g, f = g + 1 := ⟨f - 1, by omega⟩
    unfold fX10_tries_L101 fX10_tries_L101b
    rw [if_pos (nI_le (by omega) (by omega)), show noU pre p j 0 = true from rfl, Bool.and_true]
  | succ m ih =>
    intro f j fl hf hj
    obtain ⟨g, rfl⟩ : ∃ g, f = g + 1 := ⟨f - 1, by omega⟩
    have hlt := hpre j (by omega)
    unfold fX10_tries_L101 fX10_tries_L101b fX10_tries_B127 fX10_tries_B128
    rw [if_neg (show ¬ nI pre.length ≤ nI j from nI_ge (by omega) (by omega)), show nI j + 1 = nI (j + 1) from nI_1 j, inb_nI (by omega) (by omega), gd_t, ix_nI (by omega), h9 j (by omega), show noU pre p j (m + 1) = ((!decide (pre.getD j 0 = p)) && noU pre p (j + 1) m) from rfl]
    cases fl with
    | false =>
      rw [if_pos (show bi false = 0 from rfl)]
      have := ih g (j + 1) false (by omega) (by omega)
      rw [Bool.false_and] at this ⊢
      exact this
    | true =>
      rw [if_neg (show ¬ bi true = 0 by decide), Bool.true_and]
      by_cases e : pre.getD j 0 = p
      · rw [if_pos (by rw [e]), decide_eq_true e]
        have := ih g (j + 1) false (by omega) (by omega)
        exact this
      · rw [if_neg (show ¬ nI (pre.getD j 0) = nI p by rw [eq_nI (by omega) (by omega)]; exact e), decide_eq_false e]
        have := ih g (j + 1) true (by omega) (by omega)
        rw [Bool.true_and] at this
        exact this
theorem noU_iff {pre : List Nat} {p : Nat} : ∀ (m j : Nat), noU pre p j m = true ↔ ∀ i, j ≤ i → i < j + m → pre.getD i 0 ≠ p
  | 0, j => ⟨fun _ i h1 h2 => by omega, fun _ => rfl⟩
  | m + 1, j => by
    rw [show noU pre p j (m + 1) = ((!decide (pre.getD j 0 = p)) && noU pre p (j + 1) m) from rfl, Bool.and_eq_true, noU_iff m (j + 1)]
    simp only [Bool.not_eq_true', decide_eq_false_iff_not]
    constructor
    · rintro ⟨h1, h2⟩ i h3 h4
      by_cases e : i = j
      · rw [e]; exact h1
      · exact h2 i (by omega) (by omega)
    · intro h
      exact ⟨h j (by omega) (by omega), fun i h1 h2 => h i (by omega) (by omega)⟩
theorem noU_c {pre : List Nat} {p : Nat} : noU pre p 0 pre.length = !(pre.contains p) := by
  rw [Bool.eq_iff_iff, noU_iff]
  simp only [Bool.not_eq_true', ← Bool.not_eq_true, List.contains_iff_mem]
  constructor
  · intro h hm
    obtain ⟨i, hi, e⟩ := List.mem_iff_getElem.mp hm
    exact h i (by omega) (by omega) (by rw [List.getD_eq_getElem?_getD, List.getElem?_eq_getElem hi]; exact e)
  · intro h i _ hi e
    apply h
    rw [List.getD_eq_getElem?_getD, List.getElem?_eq_getElem (by omega)] at e
    exact e ▸ List.getElem_mem (by omega)
def PreOK (pre : List Nat) : Prop := (∀ i, i < pre.length → pre.getD i 0 < 4) ∧ ∀ i j, i < pre.length → j < pre.length → pre.getD i 0 = pre.getD j 0 → i = j
theorem PreOK.app {pre : List Nat} {p : Nat} (h : PreOK pre) (hp : p < 4) (hn : noU pre p 0 pre.length = true) : PreOK (pre ++ [p]) := by
  have hl : (pre ++ [p]).length = pre.length + 1 := by rw [List.length_append]; rfl
  rw [noU_iff] at hn
  refine ⟨fun i hi => ?_, fun i j hi hj e => ?_⟩
  · rw [hl] at hi
    rw [getD_app hi]
    by_cases e : i = pre.length
    · rw [if_pos e]; exact hp
    · rw [if_neg e]; exact h.1 i (by omega)
  · rw [hl] at hi hj
    rw [getD_app hi, getD_app hj] at e
    by_cases e1 : i = pre.length
    · by_cases e2 : j = pre.length
      · omega
      · rw [if_pos e1, if_neg e2] at e
        exact absurd e.symm (hn j (by omega) (by omega))
    · by_cases e2 : j = pre.length
      · rw [if_neg e1, if_pos e2] at e
        exact absurd e (hn i (by omega) (by omega))
      · rw [if_neg e1, if_neg e2] at e
        exact h.2 i j (by omega) (by omega) e
theorem m_tries {s0 : Sx} (h0 : SI s0) {v n : Nat} (hv : v ≤ 20) (hn : n ≤ 4) : ∀ (k d : Nat) (pre : List Nat) (D : Mm) (b : Option (Nat × List Nat)), k < d → pre.length + k = n → PreOK pre → D 0 15 = nI n → (∀ j, j < pre.length → D 9 j = nI (pre.getD j 0)) → EqS (D 1) s0 → repM n b D → ∃ D', grX10_tries d (nI pre.length) (nI v) D = some ((), D') ∧ EqS (D' 1) s0 ∧ repM n ((enumR (Fs s0) k pre).foldl (upS s0 v n) b) D' ∧ (∀ j, j < pre.length → D' 9 j = D 9 j) ∧ FM D D' := by
  have hFU := FU_big
  intro k
  induction k with
  | zero =>
    intro d pre D b hd hl hpre h15 h9 he hb
    obtain ⟨d, rfl⟩ : ∃ g, d = g + 1 := ⟨d - 1, by omega⟩
    have e : pre.length = n := by omega
    rw [e] at h9 ⊢
    obtain ⟨D', s1, s2, s3, s4, s5⟩ := m_leaf h0 hv hn pre (fun i hi => hpre.1 i (by omega)) (fun i j hi hj => hpre.2 i j (by omega) (by omega)) d h15 h9 he hb
    exact ⟨D', s1, s2, s3, fun j _ => by rw [s4], s5⟩
  | succ k ih =>
    intro d pre D b hd hl hpre h15 h9 he hb
    obtain ⟨d, rfl⟩ : ∃ g, d = g + 1 := ⟨d - 1, by omega⟩
    have hstep : grX10_tries (d + 1) (nI pre.length) (nI v) D = fX10_tries_L77 (grX10_tries d) (nI pre.length) (nI v) FU 0 D := by
      show fX10_tries_b (grX10_tries d) (nI pre.length) (nI v) D = _
      unfold fX10_tries_b
      rw [h15, if_neg (show ¬ nI pre.length = nI n by rw [eq_nI (by omega) (by omega)]; omega)]
    rw [hstep]
    have loop : ∀ (m f p : Nat) (D : Mm) (b : Option (Nat × List Nat)), m < f → p + m = 4 → D 0 15 = nI n → (∀ j, j < pre.length → D 9 j = nI (pre.getD j 0)) → EqS (D 1) s0 → repM n b D → ∃ D', fX10_tries_L77 (grX10_tries d) (nI pre.length) (nI v) f (nI p) D = some ((), D') ∧ EqS (D' 1) s0 ∧ repM n ((flatF (fun p => if Fs s0 p && !(pre.contains p) then enumR (Fs s0) k (pre ++ [p]) else []) p m).foldl (upS s0 v n) b) D' ∧ (∀ j, j < pre.length → D' 9 j = D 9 j) ∧ FM D D' := by
      intro m
      induction m with
      | zero =>
        intro f p D b hf hp h15 h9 he hb
        obtain ⟨g, rfl⟩ : ∃ g, f = g + 1 := ⟨f - 1, by omega⟩
        unfold fX10_tries_L77 fX10_tries_L77b fX10_tries_B162
        rw [if_pos (show (4 : Int32) ≤ nI p from nI_le (a := 4) (by omega) (by omega))]
        exact ⟨D, rfl, he, hb, fun _ _ => rfl, FM.rf D⟩
      | succ m ihm =>
        intro f p D b hf hp h15 h9 he hb
        obtain ⟨g, rfl⟩ : ∃ g, f = g + 1 := ⟨f - 1, by omega⟩
        have hp4 : p < 4 := by omega
        have hsD := SI_congr he.sy h0
        have h8 := (h0.pag hp4).2.1
        have enp : D 1 (180 + 10 * p) = nI (nP s0 p) := by rw [he _ (by omega)]; exact (h0.pag hp4).1
        have hmid : fX10_tries_L77 (grX10_tries d) (nI pre.length) (nI v) (g + 1) (nI p) D = fX10_tries_B136 (grX10_tries d) (fX10_tries_L77 (grX10_tries d) (nI pre.length) (nI v) g) (bi (Fs s0 p && !(pre.contains p))) (nI p) (nI pre.length) (nI v) D := by
          show fX10_tries_L77b (grX10_tries d) (nI pre.length) (nI v) (fX10_tries_L77 (grX10_tries d) (nI pre.length) (nI v) g) (nI p) D = _
          unfold fX10_tries_L77b fX10_tries_B96
          rw [if_neg (show ¬ (4 : Int32) ≤ nI p from nI_ge (b := 4) (by omega) (by omega)), e_of0 hp4, bd_s, enp, ← noU_c]
          have hu := fun fl => m_used (z := grX10_tries d) (q77 := fX10_tries_L77 (grX10_tries d) (nI pre.length) (nI v) g) (v := nI v) hp4 hpre.1 (by omega) h9 pre.length FU 0 fl (by omega) (by omega)
          by_cases hz : nP s0 p = 0
          · rw [if_pos (by rw [hz]; decide), Fs_at hp4, decide_eq_false (show ¬ 0 < nP s0 p by omega)]
            exact hu false
          · rw [if_neg (show ¬ nI (nP s0 p) ≤ 0 from nI_ge (a := 0) (by omega) (by omega)), Fs_at hp4, decide_eq_true (show 0 < nP s0 p by omega)]
            exact hu true
        rw [hmid, show flatF (fun p => if Fs s0 p && !(pre.contains p) then enumR (Fs s0) k (pre ++ [p]) else []) p (m + 1) = (if Fs s0 p && !(pre.contains p) then enumR (Fs s0) k (pre ++ [p]) else []) ++ flatF (fun p => if Fs s0 p && !(pre.contains p) then enumR (Fs s0) k (pre ++ [p]) else []) (p + 1) m from rfl, List.foldl_append]
        unfold fX10_tries_B136 fX10_tries_B156
        rw [show nI p + 1 = nI (p + 1) from nI_1 p]
        by_cases hok : (Fs s0 p && !(pre.contains p)) = true
        · rw [hok, if_neg (show ¬ bi true = 0 by decide), if_pos rfl, inb_nI (by omega) (by omega), gd_t, ix_nI (by omega), lt_e]
          have hno : noU pre p 0 pre.length = true := by
            rw [noU_c]; rw [Bool.and_eq_true] at hok; exact hok.2
          have hlen : (pre ++ [p]).length = pre.length + 1 := by rw [List.length_append]; rfl
          obtain ⟨D1, s1, s2, s3, s4, s5⟩ := ih d (pre ++ [p]) (wr D 9 pre.length (nI p)) b (by omega) (by omega) (hpre.app hp4 hno) (by rw [wr_c (by decide)]; exact h15) (fun j hj => by
            rw [hlen] at hj
            rw [getD_app hj, wr_at]
            by_cases e : j = pre.length
            · rw [if_pos ⟨rfl, e⟩, if_pos e]
            · rw [if_neg (fun q => e q.2), if_neg e]; exact h9 j (by omega)) (by rw [wr_c (by decide)]; exact he) (by
            unfold repM at *
            cases b with
            | none => rw [wr_c (by decide)]; exact hb
            | some q => dsimp only at *; rw [wr_c (by decide), wr_c (by decide)]; exact hb)
          rw [hlen] at s1 s4
          rw [show nI pre.length + 1 = nI (pre.length + 1) from nI_1 _, s1, bd_s]
          have f9 : ∀ j, j < pre.length → D1 9 j = D 9 j := fun j hj => by rw [s4 j (by omega), wr_j (by omega)]
          have fmw : FM D (wr D 9 pre.length (nI p)) := ⟨fun a _ _ _ _ _ a9 _ => wr_c a9, fun j _ => by rw [wr_c (by decide)]⟩
          have fmD := fmw.tr s5
          obtain ⟨D', t1, t2, t3, t4, t5⟩ := ihm g (p + 1) D1 _ (by omega) (by omega) (by rw [fmD.2 15 (by decide)]; exact h15) (fun j hj => by rw [f9 j hj]; exact h9 j hj) s2 s3
          exact ⟨D', t1, t2, t3, fun j hj => by rw [t4 j hj, f9 j hj], fmD.tr t5⟩
        · have hok' : (Fs s0 p && !(pre.contains p)) = false := by simpa using hok
          rw [hok', if_pos (show bi false = 0 from rfl), if_neg (by decide)]
          exact ihm g (p + 1) D b (by omega) (by omega) h15 h9 he hb
    exact loop 4 FU 0 D b (by omega) (by omega) h15 h9 he hb
