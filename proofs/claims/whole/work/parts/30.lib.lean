/-! PURE 1: how programs are computed; small methods as equations. -/
def Ok {β : Type} (x : Option (β × Mm)) (Q : β → Mm → Prop) : Prop := ∃ r M, x = some (r, M) ∧ Q r M
theorem ok_ret {β : Type} {r : β} {M : Mm} {Q : β → Mm → Prop} (h : Q r M) : Ok (some (r, M)) Q := ⟨r, M, rfl, h⟩
theorem ok_gd {β : Type} {c : Bool} {x : Option (β × Mm)} {Q : β → Mm → Prop} (hc : c = true) (h : Ok x Q) : Ok (gd c x) Q := by
  subst hc; exact h
theorem ok_bd {β γ : Type} {x : Option (γ × Mm)} {k : γ → Mm → Option (β × Mm)} {P : γ → Mm → Prop} {Q : β → Mm → Prop} (h : Ok x P) (hk : ∀ r M, P r M → Ok (k r M) Q) : Ok (bd x k) Q := by
  obtain ⟨r, M, rfl, hp⟩ := h
  exact hk r M hp
theorem ok_be {β γ : Type} {x : Option (γ × Mm)} {k : γ → Mm → Option (β × Mm)} {Q : β → Mm → Prop} {r : γ} {M : Mm} (h : x = some (r, M)) (hk : Ok (k r M) Q) : Ok (bd x k) Q := by
  subst h; exact hk
theorem ok_lt {α β : Type} {v : α} {k : α → Option (β × Mm)} {Q : β → Mm → Prop} (h : Ok (k v) Q) : Ok (lt v k) Q := h
theorem ok_if {β : Type} {c : Prop} [Decidable c] {a b : Option (β × Mm)} {Q : β → Mm → Prop} (h1 : c → Ok a Q) (h2 : ¬ c → Ok b Q) : Ok (if c then a else b) Q := by
  by_cases h : c
  · rw [if_pos h]; exact h1 h
  · rw [if_neg h]; exact h2 h
theorem ok_t {β : Type} {c : Prop} [Decidable c] {a b : Option (β × Mm)} {Q : β → Mm → Prop} (h : c) (h1 : Ok a Q) : Ok (if c then a else b) Q := by
  rw [if_pos h]; exact h1
theorem ok_f {β : Type} {c : Prop} [Decidable c] {a b : Option (β × Mm)} {Q : β → Mm → Prop} (h : ¬ c) (h1 : Ok b Q) : Ok (if c then a else b) Q := by
  rw [if_neg h]; exact h1
theorem ok_mono {β : Type} {x : Option (β × Mm)} {P Q : β → Mm → Prop} (h : Ok x P) (hk : ∀ r M, P r M → Q r M) : Ok x Q := by
  obtain ⟨r, M, e, hp⟩ := h
  exact ⟨r, M, e, hk r M hp⟩
theorem ok_eq {β : Type} {x y : Option (β × Mm)} {Q : β → Mm → Prop} (h : x = y) (hk : Ok y Q) : Ok x Q := h ▸ hk
theorem gd_t {α : Type} {x : Option α} : gd true x = x := rfl
theorem bd_s {β γ : Type} {r : γ} {M : Mm} {k : γ → Mm → Option (β × Mm)} : bd (some (r, M)) k = k r M := rfl
theorem lt_e {α γ : Type} {x : α} {k : α → γ} : lt x k = k x := rfl
-- memory
theorem wr_at {M : Mm} {k j a i : Nat} {v : Int32} : wr M k j v a i = if a = k ∧ i = j then v else M a i := by
  unfold wr upd
  by_cases h : a = k
  · subst h; by_cases h2 : i = j <;> simp [h2]
  · simp [h]
theorem wr_s {M : Mm} {k j : Nat} {v : Int32} : wr M k j v k j = v := by simp [wr_at]
theorem wr_c {M : Mm} {k j a : Nat} {v : Int32} (h : a ≠ k) : wr M k j v a = M a := by unfold wr; rw [if_neg h]
theorem wr_j {M : Mm} {k j i : Nat} {v : Int32} (h : i ≠ j) : wr M k j v k i = M k i := by simp [wr_at, h]
theorem wr_k {M : Mm} {k j : Nat} {v : Int32} : wr M k j v k = upd (M k) j v := by unfold wr; rw [if_pos rfl]
theorem cpm_c {M : Mm} {k0 sp k1 dp n a : Nat} (h : a ≠ k1) : cpm M k0 sp k1 dp n a = M a := by unfold cpm; rw [if_neg h]
theorem cpm_k {M : Mm} {k0 sp k1 dp n : Nat} : cpm M k0 sp k1 dp n k1 = va_cpy (M k0) (M k1) sp dp n := by unfold cpm; rw [if_pos rfl]
theorem upd_s {f : Nat → Int32} {k : Nat} {x : Int32} : upd f k x k = x := by simp [upd]
theorem upd_n {f : Nat → Int32} {k j : Nat} {x : Int32} (h : j ≠ k) : upd f k x j = f j := by simp [upd, h]
-- numbers
theorem ix_nI {n : Nat} (h : n < 2 ^ 31) : ix (nI n) = n := nI_clamp h
theorem inb_nI {n N : Nat} (h : n < N) (hN : N ≤ 2147483648) : inb (nI n) N = true := by
  have h31 : n < 2 ^ 31 := by omega
  have h0 : ¬ nI n < 0 := nI_pos h31
  simp [inb, h0, nI_clamp h31, h]
theorem inb_in {x : Int32} {N : Nat} (h : inb x N = true) (hN : N < 2 ^ 31) : ∃ n, n < N ∧ x = nI n := by
  obtain ⟨j, hj, e⟩ := vp_in_of (inb_vp h) hN
  exact ⟨j, hj, e⟩
theorem le_nI {a b : Nat} (ha : a < 2 ^ 31) (hb : b < 2 ^ 31) : (nI a ≤ nI b) = (a ≤ b) := propext (nI_leI ha hb)
theorem lt_nI {a b : Nat} (ha : a < 2 ^ 31) (hb : b < 2 ^ 31) : (nI a < nI b) = (a < b) := propext (nI_ltI ha hb)
theorem eq_nI {a b : Nat} (ha : a < 2 ^ 31) (hb : b < 2 ^ 31) : (nI a = nI b) = (a = b) := propext (nI_eq ha hb)
def wi (a lo hi : Int32) : Bool := decide (lo ≤ a) && decide (a ≤ hi)
def hd (a lo hi : Int32) : Int32 := if lo ≤ a then (if a ≤ hi then a else hi) else lo
theorem i32_nlt {a b : Int32} : ¬ a < b ↔ b ≤ a := by rw [Int32.lt_iff_toInt_lt, Int32.le_iff_toInt_le]; omega
theorem i32_nle {a b : Int32} : ¬ a ≤ b ↔ b < a := by rw [Int32.lt_iff_toInt_lt, Int32.le_iff_toInt_le]; omega
theorem e_isWithin (a lo hi : Int32) (M : Mm) : fX9_isWithin a lo hi M = some (wi a lo hi, M) := by
  unfold fX9_isWithin fX9_isWithin_B14 fX9_isWithin_B15 wi
  by_cases h1 : a < lo
  · rw [if_pos h1]
    have : ¬ lo ≤ a := by rw [i32_nle]; exact h1
    simp [this, gd, isb]
  · rw [if_neg h1]
    have h1' : lo ≤ a := i32_nlt.mp h1
    by_cases h2 : hi < a
    · rw [if_pos h2]
      have : ¬ a ≤ hi := by rw [i32_nle]; exact h2
      simp [this, gd, isb]
    · rw [if_neg h2]
      simp [h1', i32_nlt.mp h2, gd, isb]
theorem e_in (a lo hi : Int32) (M : Mm) : fX10_in a lo hi M = some (wi a lo hi, M) := by
  unfold fX10_in fX10_in_B14 fX10_in_B15 wi
  by_cases h1 : a < lo
  · rw [if_pos h1]
    have : ¬ lo ≤ a := by rw [i32_nle]; exact h1
    simp [this, gd, isb]
  · rw [if_neg h1]
    have h1' : lo ≤ a := i32_nlt.mp h1
    by_cases h2 : hi < a
    · rw [if_pos h2]
      have : ¬ a ≤ hi := by rw [i32_nle]; exact h2
      simp [this, gd, isb]
    · rw [if_neg h2]
      simp [h1', i32_nlt.mp h2, gd, isb]
theorem e_hold (a lo hi : Int32) (M : Mm) : fX9_hold a lo hi M = some (hd a lo hi, M) := by
  unfold fX9_hold fX9_hold_B17 hd
  split
  · split <;> rfl
  · rfl
theorem e_held (a lo hi : Int32) (M : Mm) : fX10_held a lo hi M = some (hd a lo hi, M) := by
  unfold fX10_held fX10_held_B19 hd
  split
  · split <;> rfl
  · rfl
theorem e_isPageC (a : Int32) (M : Mm) : fX9_isPage a M = some (wi a 0 3, M) := by
  unfold fX9_isPage; rw [e_isWithin]; rfl
theorem e_isPlate (a : Int32) (M : Mm) : fX9_isPlate a M = some (wi a 0 3, M) := by
  unfold fX9_isPlate; rw [e_isWithin]; rfl
theorem e_isPage (a : Int32) (M : Mm) : fX10_isPage a M = some (wi a 0 3, M) := by
  unfold fX10_isPage; rw [e_in]; rfl
theorem e_isSheet (a : Int32) (M : Mm) : fX10_isSheet a M = some (wi a 0 3, M) := by
  unfold fX10_isSheet; rw [e_in]; rfl
theorem e_isAhead (a : Int32) (M : Mm) : fX10_isAhead a M = some (wi a 0 99, M) := by
  unfold fX10_isAhead; rw [e_in]; rfl
theorem e_isSmallLetter (a : Int32) (M : Mm) : fX9_isSmallLetter a M = some (wi a 97 122, M) := by
  unfold fX9_isSmallLetter; rw [e_isWithin]; rfl
theorem wi_in {a : Int32} {n : Nat} (hn : n < 2 ^ 31) (h : wi a 0 (nI n) = true) : ∃ j, j ≤ n ∧ a = nI j := by
  simp only [wi, Bool.and_eq_true, decide_eq_true_eq] at h
  exact nI_of2 (nI_toInt hn) (i32_nlt.mpr h.1) h.2
theorem wi_nI {j n : Nat} (hn : n < 2 ^ 31) (h : j ≤ n) : wi (nI j) 0 (nI n) = true := by
  have h1 : (0 : Int32) ≤ nI j := nI_pos' (by omega)
  have h2 : nI j ≤ nI n := nI_le h hn
  simp [wi, h1, h2]
