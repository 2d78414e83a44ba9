/-! PURE 33: order, the class's tables. -/
def rowIs (C : Mm) (k : Nat) (L : List Nat) : Prop := C k 1 = nI L.length ∧ ∀ j, j < L.length → C (k + 1) j = nI (L.getD j 0)
theorem rowIs.fr {C C' : Mm} {k : Nat} {L : List Nat} (h : rowIs C k L) (h1 : C' k = C k) (h2 : C' (k + 1) = C (k + 1)) : rowIs C' k L := by
  unfold rowIs at *; rw [h1, h2]; exact h
theorem getD_app {L : List Nat} {x j : Nat} (h : j < L.length + 1) : (L ++ [x]).getD j 0 = if j = L.length then x else L.getD j 0 := by
  rw [List.getD_eq_getElem?_getD, List.getD_eq_getElem?_getD]
  by_cases e : j = L.length
  · rw [if_pos e, e, List.getElem?_append_right (Nat.le_refl _), Nat.sub_self]; rfl
  · rw [if_neg e, List.getElem?_append_left (by omega)]
theorem o_rowadd {C : Mm} {k x : Nat} {L : List Nat} (hc : isC layC k 5 = true) (h : rowIs C k L) (hcap : L.length < aN layC (k + 1)) : ∃ C', fX5_add k (nI x) C = some (true, C') ∧ rowIs C' k (L ++ [x]) ∧ ∀ a, a ≠ k → a ≠ k + 1 → C' a = C a := by
  refine ⟨_, e_add hc h.1 hcap _, ⟨by rw [wr_s, List.length_append]; rfl, fun j hj => ?_⟩, fun a a1 a2 => by rw [wr_c a1, wr_c a2]⟩
  rw [List.length_append] at hj
  have hj : j < L.length + 1 := hj
  rw [getD_app hj, wr_c (by omega), wr_at]
  by_cases e : j = L.length
  · rw [if_pos ⟨rfl, e⟩, if_pos e]
  · rw [if_neg (fun z => e z.2), if_neg e]; exact h.2 j (by omega)
theorem o_rowat {C : Mm} {k d : Nat} {L : List Nat} (hc : isC layC k 5 = true) (h : rowIs C k L) (hcap : L.length ≤ aN layC (k + 1)) (hd : d < 2 ^ 31) : fX5_at k (nI d) C = some (nI (L.getD d 0), C) := by
  rw [e_at hc h.1 hcap hd]
  by_cases e : d < L.length
  · rw [if_pos e, h.2 d e]
  · rw [if_neg e, List.getD_eq_getElem?_getD, List.getElem?_eq_none (by omega)]; rfl
def ScB (C C' : Mm) : Prop := ∀ a, a ≠ 40 → a ≠ 41 → a ≠ 45 → a ≠ 46 → ¬ (136 ≤ a ∧ a < 153) → C' a = C a
theorem ScB.rf (C : Mm) : ScB C C := fun _ _ _ _ _ _ => rfl
theorem ScB.tr {A B C : Mm} (h : ScB A B) (h2 : ScB B C) : ScB A C := fun a h1 h3 h4 h5 h6 => (h2 a h1 h3 h4 h5 h6).trans (h a h1 h3 h4 h5 h6)
theorem ScA.sb {C C' : Mm} (h : ScA C C') : ScB C C' := fun a h1 h2 h3 h4 h5 => h a h1 h2 h3 h4 (by omega)
theorem RV.sb {C C' : Mm} {s : Sx} (hs : SI s) (h : RV C s) (hc : ScB C C') : RV C' s := by
  obtain ⟨h1, h2, h3, h4, h5, h6⟩ := h
  have hL := hs.l24
  refine ⟨?_, fun j hj => ?_, fun p hp => ?_, fun i f hi hf => ?_, fun p hp => ?_, fun u hu => ?_⟩
  · rw [hc 0 (by omega) (by omega) (by omega) (by omega) (by omega)]; exact h1
  · rw [hc _ (by omega) (by omega) (by omega) (by omega) (by omega)]; exact h2 j hj
  · rw [hc _ (by omega) (by omega) (by omega) (by omega) (by omega)]; exact h3 p hp
  · rw [hc _ (by omega) (by omega) (by omega) (by omega) (by omega)]; exact h4 i f hi hf
  · rw [hc (0 + 29 + 2 * p) (by omega) (by omega) (by omega) (by omega) (by omega), hc (0 + 30 + 2 * p) (by omega) (by omega) (by omega) (by omega) (by omega)]; exact h5 p hp
  · rw [hc (0 + 38 + 5 * u) (by omega) (by omega) (by omega) (by omega) (by omega), hc (0 + 39 + 5 * u) (by omega) (by omega) (by omega) (by omega) (by omega)]; exact h6 u hu
def Fs (s : Sx) : Nat → Bool := fF (decide (0 < nP s 0)) (decide (0 < nP s 1)) (decide (0 < nP s 2)) (decide (0 < nP s 3))
theorem Fs_at {s : Sx} {p : Nat} (hp : p < 4) : Fs s p = decide (0 < nP s p) := by
  rcases (show p = 0 ∨ p = 1 ∨ p = 2 ∨ p = 3 by omega) with rfl | rfl | rfl | rfl <;> rfl
theorem flL_len (F : Nat → Bool) : (flL F).length ≤ 4 := by
  have := List.length_filter_le F (List.range 4)
  rw [List.length_range] at this
  exact this
theorem flL_lt {F : Nat → Bool} {k : Nat} (hk : k < (flL F).length) : (flL F).getD k 0 < 4 := by
  rw [List.getD_eq_getElem?_getD, List.getElem?_eq_getElem hk]
  have := List.getElem_mem hk
  have := (List.mem_filter.mp this).1
  exact List.mem_range.mp this
theorem c_fill {s : Sx} (hs : SI s) (v : Int32) : ∀ (m f p : Nat) (C : Mm), m < f → p + m = 4 → RV C s → rowIs C 147 ((List.range p).filter (Fs s)) → ∃ C', fX6_tryTurns_L9 v f (nI p) C = fX6_tryTurns_B44 v C' ∧ rowIs C' 147 (flL (Fs s)) ∧ ScB C C' := by
  intro m
  induction m with
  | zero =>
    intro f p C hf hp hv hr
    obtain ⟨g, rfl⟩ : ∃ g, f = g + 1 := ⟨f - 1, by omega⟩
    have e : p = 4 := by omega
    subst e
    unfold fX6_tryTurns_L9 fX6_tryTurns_L9b
    rw [if_pos (by decide)]
    exact ⟨C, rfl, hr, ScB.rf C⟩
  | succ m ih =>
    intro f p C hf hp hv hr
    obtain ⟨g, rfl⟩ : ∃ g, f = g + 1 := ⟨f - 1, by omega⟩
    have hp4 : p < 4 := by omega
    have h8 := (hs.pag hp4).2.1
    obtain ⟨p1, p2, p3⟩ := hv.pn hs hp4
    have efil : (List.range (p + 1)).filter (Fs s) = (List.range p).filter (Fs s) ++ (if Fs s p = true then [p] else []) := by
      rw [List.range_succ, List.filter_append]
      congr 1
      rw [List.filter_cons]; rfl
    unfold fX6_tryTurns_L9 fX6_tryTurns_L9b fX6_tryTurns_B38
    rw [if_neg (show ¬ (4 : Int32) ≤ nI p from nI_ge (b := 4) (by omega) (by omega)), inb_nI hp4 (by omega), gd_t, ix_nI (by omega), c_pag p hp4, gd_t, p1, show nI p + 1 = nI (p + 1) from nI_1 p]
    by_cases h0 : nP s p = 0
    · have hF : ¬ Fs s p = true := by rw [Fs_at hp4]; simp [h0]
      rw [if_pos (by rw [h0]; decide)]
      rw [if_neg hF, List.append_nil] at efil
      exact ih g (p + 1) C (by omega) (by omega) hv (by rw [efil]; exact hr)
    · have hF : Fs s p = true := by rw [Fs_at hp4]; simp; omega
      rw [if_pos hF] at efil
      have hlen : ((List.range p).filter (Fs s)).length ≤ p := by
        have := List.length_filter_le (Fs s) (List.range p)
        rw [List.length_range] at this; exact this
      obtain ⟨C1, e1, e2, e3⟩ := o_rowadd (x := p) (by decide) hr (by have := cap_all.1; omega)
      rw [if_neg (show ¬ nI (nP s p) ≤ 0 from nI_ge (a := 0) (by omega) (by omega)), e1, bd_s]
      have hsb : ScB C C1 := fun a _ _ _ _ h => e3 a (by omega) (by omega)
      obtain ⟨C', s1, s2, s3⟩ := ih g (p + 1) C1 (by omega) (by omega) (hv.sb hs hsb) (by rw [efil]; exact e2)
      exact ⟨C', s1, s2, hsb.tr s3⟩
theorem c_in {s : Sx} (hs : SI s) {v k : Nat} {F : Nat → Bool} {n : Nat} (hn : (flL F).length = n) (hv : v ≤ 20) (hk : k < n) (q53 : Int32 → Mm → Option (Unit × Mm)) : ∀ (m f t : Nat) (C : Mm), m < f → t + m = n → RV C s → rowIs C 147 (flL F) → C 149 1 = nI (k * n + t) → (∀ j, j < k * n + t → C 150 j = nI (tabF s v n (flL F) j)) → ∃ C', fX6_tryTurns_L66 q53 (nI k) (nI v) f (nI t) C = q53 (nI (k + 1)) C' ∧ rowIs C' 147 (flL F) ∧ C' 149 1 = nI ((k + 1) * n) ∧ (∀ j, j < (k + 1) * n → C' 150 j = nI (tabF s v n (flL F) j)) ∧ ScB C C' := by
  have hn4 := flL_len F
  have hsm : (k + 1) * n = k * n + n := Nat.succ_mul k n
  have hcap := cap_all
  intro m
  induction m with
  | zero =>
    intro f t C hf ht hc hr h1 h2
    obtain ⟨g, rfl⟩ : ∃ g, f = g + 1 := ⟨f - 1, by omega⟩
    have e : t = n := by omega
    subst e
    unfold fX6_tryTurns_L66 fX6_tryTurns_L66b fX6_tryTurns_B105
    rw [hr.1, hn, if_pos (nI_le (by omega) (by omega)), show nI k + 1 = nI (k + 1) from nI_1 k, hsm]
    exact ⟨C, rfl, hr, h1, h2, ScB.rf C⟩
  | succ m ih =>
    intro f t C hf ht hc hr h1 h2
    obtain ⟨g, rfl⟩ : ∃ g, f = g + 1 := ⟨f - 1, by omega⟩
    have hlt := flL_lt (F := F) (k := k) (by omega)
    obtain ⟨C1, e1, e2⟩ := c_turn hs hlt (show t < 4 by omega) hv hc
    have hle := dn_le (n := n) (by omega) hk (show t < n by omega)
    have hnn := nn_le (n := n) (by omega)
    have h1' : C1 149 1 = nI (k * n + t) := by rw [e2 149 (by omega) (by omega) (by omega) (by omega) (by omega)]; exact h1
    unfold fX6_tryTurns_L66 fX6_tryTurns_L66b
    rw [hr.1, hn, if_neg (show ¬ nI n ≤ nI t from nI_ge (by omega) (by omega)), o_rowat (by decide) hr (by omega) (by omega), bd_s, e1, bd_s, e_add (k := 149) (by decide) h1' (by omega), bd_s, show nI t + 1 = nI (t + 1) from nI_1 t]
    have hsb : ScB C (wr (wr C1 (149 + 1) (k * n + t) (nI (ct s v ((flL F).getD k 0) t))) 149 1 (nI (k * n + t + 1))) := e2.sb.tr (fun a _ _ _ _ h => by rw [wr_c (by omega), wr_c (by omega)])
    obtain ⟨C', s1, s2, s3, s4, s5⟩ := ih g (t + 1) _ (by omega) (by omega) (hc.sb hs hsb) (hr.fr (by rw [wr_c (by omega), wr_c (by omega), e2 147 (by omega) (by omega) (by omega) (by omega) (by omega)]) (by rw [wr_c (by omega), wr_c (by omega), e2 148 (by omega) (by omega) (by omega) (by omega) (by omega)])) wr_s (fun j hj => by
      rw [wr_c (by omega), show (150 : Nat) = 149 + 1 from rfl, wr_at]
      by_cases e : j = k * n + t
      · rw [if_pos ⟨rfl, e⟩, e, tabF_at (by omega) (by omega)]
      · rw [if_neg (fun z => e z.2), e2 (149 + 1) (by omega) (by omega) (by omega) (by omega) (by omega)]; exact h2 j (by omega))
    exact ⟨C', s1, s2, s3, s4, hsb.tr s5⟩
theorem c_out {s : Sx} (hs : SI s) {v : Nat} {F : Nat → Bool} {n : Nat} (hn : (flL F).length = n) (hv : v ≤ 20) : ∀ (m f k : Nat) (C : Mm), m < f → k + m = n → RV C s → rowIs C 147 (flL F) → C 149 1 = nI (k * n) → (∀ j, j < k * n → C 150 j = nI (tabF s v n (flL F) j)) → ∃ C', fX6_tryTurns_L53 (nI v) f (nI k) C = some ((), C') ∧ rowIs C' 147 (flL F) ∧ C' 149 1 = nI (n * n) ∧ (∀ j, j < n * n → C' 150 j = nI (tabF s v n (flL F) j)) ∧ ScB C C' := by
  have hn4 := flL_len F
  have hFU := FU_big
  intro m
  induction m with
  | zero =>
    intro f k C hf hk hc hr h1 h2
    obtain ⟨g, rfl⟩ : ∃ g, f = g + 1 := ⟨f - 1, by omega⟩
    have e : k = n := by omega
    subst e
    unfold fX6_tryTurns_L53 fX6_tryTurns_L53b fX6_tryTurns_B111
    rw [hr.1, hn, if_pos (nI_le (by omega) (by omega))]
    exact ⟨C, rfl, hr, h1, h2, ScB.rf C⟩
  | succ m ih =>
    intro f k C hf hk hc hr h1 h2
    obtain ⟨g, rfl⟩ : ∃ g, f = g + 1 := ⟨f - 1, by omega⟩
    obtain ⟨C1, e1, e2, e3, e4, e5⟩ := c_in hs hn hv (show k < n by omega) (fX6_tryTurns_L53 (nI v) g) n FU 0 C (by omega) (by omega) hc hr h1 h2
    rw [show nI 0 = (0 : Int32) from rfl] at e1
    unfold fX6_tryTurns_L53 fX6_tryTurns_L53b
    rw [hr.1, hn, if_neg (show ¬ nI n ≤ nI k from nI_ge (by omega) (by omega)), e1]
    obtain ⟨C', s1, s2, s3, s4, s5⟩ := ih g (k + 1) C1 (by omega) (by omega) (hc.sb hs e5) e2 e3 e4
    exact ⟨C', s1, s2, s3, s4, e5.tr s5⟩
theorem c_try {s : Sx} (hs : SI s) {v : Nat} (hv : v ≤ 20) {C : Mm} (hc : RV C s) : ∃ C', fX6_tryTurns (nI v) C = some ((), C') ∧ rowIs C' 147 (flL (Fs s)) ∧ C' 149 1 = nI ((flL (Fs s)).length * (flL (Fs s)).length) ∧ (∀ j, j < (flL (Fs s)).length * (flL (Fs s)).length → C' 150 j = nI (tabF s v (flL (Fs s)).length (flL (Fs s)) j)) ∧ ScB C C' := by
  have hFU := FU_big
  have hn4 := flL_len (Fs s)
  have b1 : ScB C (wr C 147 1 0) := fun a _ _ _ _ h => wr_c (by omega)
  obtain ⟨C1, e1, e2, e3⟩ := c_fill hs (nI v) 4 FU 0 (wr C 147 1 0) (by omega) (by omega) (hc.sb hs b1) ⟨wr_s, fun j hj => by simp at hj⟩
  have b2 : ScB C1 (wr C1 149 1 0) := fun a _ _ _ _ h => wr_c (by omega)
  obtain ⟨C2, f1, f2, f3, f4, f5⟩ := c_out hs (F := Fs s) rfl hv (flL (Fs s)).length FU 0 (wr C1 149 1 0) (by omega) (by omega) (hc.sb hs ((b1.tr e3).tr b2)) (e2.fr (wr_c (by decide)) (wr_c (by decide))) (by rw [wr_s, Nat.zero_mul]; rfl) (fun j hj => by omega)
  rw [show nI 0 = (0 : Int32) from rfl] at e1 f1
  unfold fX6_tryTurns
  rw [e_clear (by decide), bd_s, e1]
  unfold fX6_tryTurns_B44
  rw [e_clear (by decide), bd_s, f1]
  exact ⟨C2, rfl, f2, f3, f4, ((b1.tr e3).tr b2).tr f5⟩
theorem c_last {c n : Nat} {F : Nat → Bool} (hn : (flL F).length = n) (hc : c < 256) : ∀ (m f t : Nat) (C : Mm), m < f → t + m = n → rowIs C 147 (flL F) → rowIs C 151 (((List.range n).map fun t => (flL F).getD (dig n c t) 0).take t) → ∃ C', fX6_findBest_L66 (nI c) (nI n) f (nI t) C = some ((), C') ∧ rowIs C' 151 (rowC F n c) ∧ (∀ a, a ≠ 151 → a ≠ 152 → C' a = C a) := by
  have hn4 := flL_len F
  intro m
  induction m with
  | zero =>
    intro f t C hf ht hr h1
    obtain ⟨g, rfl⟩ : ∃ g, f = g + 1 := ⟨f - 1, by omega⟩
    have e : t = n := by omega
    subst e
    unfold fX6_findBest_L66 fX6_findBest_L66b fX6_findBest_B98
    rw [if_pos (nI_le (by omega) (by omega))]
    refine ⟨C, rfl, ?_, fun _ _ _ => rfl⟩
    rw [List.take_of_length_le (by simp)] at h1
    exact h1
  | succ m ih =>
    intro f t C hf ht hr h1
    obtain ⟨g, rfl⟩ : ∃ g, f = g + 1 := ⟨f - 1, by omega⟩
    have hd := dig_lt n c t
    have hcap := cap_all
    unfold fX6_findBest_L66 fX6_findBest_L66b
    obtain ⟨C1, e1, e2, e3⟩ := o_rowadd (x := (flL F).getD (dig n c t) 0) (by decide) h1 (by rw [hcap.2.2]; simp; omega)
    rw [if_neg (show ¬ nI n ≤ nI t from nI_ge (by omega) (by omega)), c_chosen (by omega) hc (by omega), bd_s, o_rowat (by decide) hr (by omega) (by omega), bd_s, e1, bd_s, show nI t + 1 = nI (t + 1) from nI_1 t]
    obtain ⟨C', s1, s2, s3⟩ := ih g (t + 1) C1 (by omega) (by omega) (hr.fr (e3 147 (by decide) (by decide)) (e3 148 (by decide) (by decide))) (by
      rw [List.take_add_one, List.getElem?_map, List.getElem?_range (by omega)]; exact e2)
    exact ⟨C', s1, s2, fun a a1 a2 => by rw [s3 a a1 a2, e3 a a1 a2]⟩
