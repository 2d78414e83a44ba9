/-! PURE 11: texts worked out. -/
def jn (v x y : Int32) : Int32 := if v = 43 then x + y else if v = 45 then x - y else if v = 42 then x * y else if v = 47 then (if y = 0 then 0 else x / y) else if v = 37 then (if y = 0 then 0 else x - x / y * y) else if v = 60 then (if y ≤ x then 0 else 1) else if v = 61 then (if x = y then 1 else 0) else if v = 62 then (if x ≤ y then 0 else 1) else if v = 38 then (if x = 0 then 0 else if y = 0 then 0 else 1) else (if x = 0 then (if y = 0 then 0 else 1) else 1)
theorem i32_divm1 (x : Int32) : x / (-1) = -x := by
  apply Int32.toInt_inj.mp
  rw [Int32.toInt_div, show (-1 : Int32).toInt = -1 by decide, Int.tdiv_neg, Int.tdiv_one, ← Int32.toInt_neg]
theorem e_joinC {v : Int32} (h : isSg v) (x y : Int32) (M : Mm) : fX1_join v x y M = some (jn v x y, M) := by
  unfold fX1_join fX1_join_B110 fX1_join_B111 fX1_join_B168 fX1_join_B122 fX1_join_B133 fX1_join_B144 fX1_join_B92 fX1_join_B97 fX1_join_B180 jn
  rcases h with rfl | rfl | rfl | rfl | rfl | rfl | rfl | rfl | rfl | rfl
  · by_cases h1 : x = 0 <;> by_cases h2 : y = 0 <;> simp [h1, h2]
  · by_cases h1 : x = 0 <;> by_cases h2 : y = 0 <;> simp [h1, h2]
  · by_cases h1 : y ≤ x <;> simp [h1]
  · by_cases h1 : x = y <;> simp [h1]
  · by_cases h1 : x ≤ y <;> simp [h1]
  · simp
  · simp
  · simp
  · by_cases h1 : y = 0 <;> simp [h1, nz, gd]
  · by_cases h1 : y = 0 <;> simp [h1, nz, gd]
theorem e_joinM {v : Int32} (h : isSg v) (x y : Int32) (M : Mm) : fX10_joined v x y M = some (jn v x y, M) := by
  unfold fX10_joined fX10_joined_B163 fX10_joined_B170 fX10_joined_B216 fX10_joined_B217 fX10_joined_B226 fX10_joined_B231 fX10_joined_B153 fX10_joined_B181 fX10_joined_B203 fX10_joined_B192 jn
  rcases h with rfl | rfl | rfl | rfl | rfl | rfl | rfl | rfl | rfl | rfl
  · by_cases h1 : x = 0 <;> by_cases h2 : y = 0 <;> simp [h1, h2]
  · by_cases h1 : x = 0 <;> by_cases h2 : y = 0 <;> simp [h1, h2]
  · by_cases h1 : y ≤ x <;> simp [h1]
  · by_cases h1 : x = y <;> simp [h1]
  · by_cases h1 : x ≤ y <;> simp [h1]
  · simp
  · simp
  · simp
  · by_cases h1 : y = 0
    · simp [h1]
    · by_cases h2 : y = -1
      · subst h2; simp [i32_divm1]
      · simp [h1, h2, nz, gd]
  · by_cases h1 : y = 0
    · simp [h1]
    · by_cases h2 : y = -1
      · subst h2
        have e : x - x / (-1) * (-1) = 0 := by rw [i32_divm1, Int32.mul_neg, Int32.mul_one, Int32.neg_neg, Int32.sub_self]
        simp [e]
      · simp [h1, h2, nz, gd]
/-- what stands in the pile behind k steps -/
def stE (s : Sx) (u : Nat) (nm : Nat → Int32) : Nat → Nat → Int32
  | 0 => fun _ => 0
  | k + 1 => if s (293 + 125 * u + 2 * k) = 0 then upd (stE s u nm k) (dpt s u k) (s (294 + 125 * u + 2 * k)) else if s (293 + 125 * u + 2 * k) = 1 then upd (stE s u nm k) (dpt s u k) (nm (ix (s (294 + 125 * u + 2 * k)))) else if s (293 + 125 * u + 2 * k) = 2 then upd (stE s u nm k) (dpt s u k - 1) (if stE s u nm k (dpt s u k - 1) = 0 then 1 else 0) else upd (stE s u nm k) (dpt s u k - 2) (jn (s (294 + 125 * u + 2 * k)) (stE s u nm k (dpt s u k - 2)) (stE s u nm k (dpt s u k - 1)))
def evS (s : Sx) (u : Nat) (nm : Nat → Int32) : Int32 := stE s u nm (nX s u) 0
theorem dpt_le (s : Sx) (u : Nat) : ∀ k, dpt s u k ≤ k
  | 0 => Nat.le_refl 0
  | k + 1 => by
    have ih := dpt_le s u k
    simp only [dpt]
    split
    · omega
    · split <;> omega
theorem dpt_pos {s : Sx} {u : Nat} (ht : TOK s u) : ∀ k, 1 ≤ k → k ≤ nX s u → 1 ≤ dpt s u k
  | 0, h, _ => by omega
  | k + 1, _, hk => by
    have hs := ht.2.2 k (by omega)
    simp only [dpt]
    rcases hs with hw | ⟨hw, -⟩ | ⟨hw, hd⟩ | ⟨hw, hd, -⟩
    · rw [if_pos (Or.inl hw)]; omega
    · rw [if_pos (Or.inr hw)]; omega
    · rw [hw, if_neg (by decide), if_pos rfl]; exact hd
    · rw [hw, if_neg (by decide), if_neg (by decide)]; omega
theorem x_w (u k : Nat) : (nI (292 + 125 * u) + (1 : Int32)) + ((2 : Int32) * nI k) = nI (293 + 125 * u + 2 * k) := by
  rw [show (1 : Int32) = nI 1 from rfl, show (2 : Int32) = nI 2 from rfl, pk_mul, nI_add, nI_add]
  exact congrArg nI (by omega)
theorem x_v (u k : Nat) : (nI (292 + 125 * u) + (2 : Int32)) + ((2 : Int32) * nI k) = nI (294 + 125 * u + 2 * k) := by
  rw [show (2 : Int32) = nI 2 from rfl, pk_mul, nI_add, nI_add]
  exact congrArg nI (by omega)
theorem nm_lt {u : Nat} {v : Int32} (h : isNm u v) : ∃ c, c < 128 ∧ v = nI c := by
  rcases h with ⟨-, h⟩ | ⟨-, h⟩
  · rcases h with rfl | rfl | rfl | rfl
    · exact ⟨105, by omega, rfl⟩
    · exact ⟨99, by omega, rfl⟩
    · exact ⟨97, by omega, rfl⟩
    · exact ⟨109, by omega, rfl⟩
  · rcases h with rfl | rfl | rfl
    · exact ⟨114, by omega, rfl⟩
    · exact ⟨115, by omega, rfl⟩
    · exact ⟨103, by omega, rfl⟩
theorem nI_dm1 {d : Nat} (h : 1 ≤ d) : nI d + (-1) = nI (d - 1) := by
  obtain ⟨e, rfl⟩ : ∃ e, d = e + 1 := ⟨d - 1, by omega⟩
  rw [pk_m1]; rfl
theorem nI_dm {d : Nat} (h : 1 ≤ d) : nI d - 1 = nI (d - 1) := pk_sub (b := 1) h
theorem worked_loop {u : Nat} (hu : u < 2) {s : Sx} {nm : Nat → Int32} (ht : TOK s u) (hpos : 0 < nX s u) : ∀ (m f k : Nat) (D : Mm), m < f → k + m = nX s u → D 1 = s → (∀ v, isNm u v → D 6 (ix v) = nm (ix v)) → (∀ j, j < dpt s u k → D 7 j = stE s u nm k j) →
    Ok (fX10_worked_L14 (nI (292 + 125 * u)) f (nI k) (nI (dpt s u k)) D) (fun r D' => r = evS s u nm ∧ ∀ a, a ≠ 7 → D' a = D a) := by
  have h60 := ht.2.1
  intro m
  induction m with
  | zero =>
    intro f k D hf hk hs hn hst
    obtain ⟨g, rfl⟩ : ∃ g, f = g + 1 := ⟨f - 1, by omega⟩
    have hkn : k = nX s u := by omega
    unfold fX10_worked_L14 fX10_worked_L14b fX10_worked_B164
    rw [inb_nI (by omega) (by omega), gd_t, ix_nI (by omega), hs, ht.1, hkn, if_pos (nI_le (Nat.le_refl _) (by omega)), ix_lit0]
    refine ok_ret ⟨?_, fun a _ => rfl⟩
    have := dpt_pos ht k (by omega) (by omega)
    rw [hst 0 (by omega), hkn]
    rfl
  | succ m ih =>
    intro f k D hf hk hs hn hst
    obtain ⟨g, rfl⟩ : ∃ g, f = g + 1 := ⟨f - 1, by omega⟩
    have hd := dpt_le s u k
    unfold fX10_worked_L14 fX10_worked_L14b
    rw [inb_nI (by omega) (by omega), gd_t, ix_nI (by omega), hs, ht.1, if_neg (nI_ge (by omega) (by omega)), x_w, inb_nI (by omega) (by omega), gd_t, ix_nI (by omega), lt_e, x_v, inb_nI (by omega) (by omega), gd_t, ix_nI (by omega), lt_e]
    have step : ∀ (D2 : Mm), (∀ a, a ≠ 7 → D2 a = D a) → (∀ j, j < dpt s u (k + 1) → D2 7 j = stE s u nm (k + 1) j) → Ok (fX10_worked_L14 (nI (292 + 125 * u)) g (nI k + 1) (nI (dpt s u (k + 1))) D2) (fun r D' => r = evS s u nm ∧ ∀ a, a ≠ 7 → D' a = D a) := by
      intro D2 h1 h2
      rw [nI_1]
      refine ok_mono (ih g (k + 1) D2 (by omega) (by omega) (by rw [h1 1 (by decide)]; exact hs) (fun v hv => by rw [h1 6 (by decide)]; exact hn v hv) h2) (fun r D' q => ⟨q.1, fun a ha => (q.2 a ha).trans (h1 a ha)⟩)
    rcases ht.2.2 k (by omega) with hw | ⟨hw, hv⟩ | ⟨hw, hd1⟩ | ⟨hw, hd2, hv⟩
    · have e1 : dpt s u (k + 1) = dpt s u k + 1 := by simp only [dpt]; rw [if_pos (Or.inl hw)]
      have e2 : stE s u nm (k + 1) = upd (stE s u nm k) (dpt s u k) (s (294 + 125 * u + 2 * k)) := by simp only [stE]; rw [if_pos hw]
      rw [if_pos hw]
      unfold fX10_worked_B66 fX10_worked_B88 fX10_worked_B158
      rw [if_pos hw, inb_nI (by omega) (by omega), gd_t, ix_nI (by omega), lt_e, show nI (dpt s u k) + 1 = nI (dpt s u (k + 1)) by rw [e1, nI_1]]
      refine step _ (fun a ha => wr_c ha) (fun j hj => ?_)
      rw [e2, wr_at]; unfold upd
      by_cases ej : j = dpt s u k
      · rw [if_pos ⟨rfl, ej⟩, if_pos ej]
      · rw [if_neg (fun z => ej z.2), if_neg ej]; exact hst j (by omega)
    · have e1 : dpt s u (k + 1) = dpt s u k + 1 := by simp only [dpt]; rw [if_pos (Or.inr hw)]
      have e2 : stE s u nm (k + 1) = upd (stE s u nm k) (dpt s u k) (nm (ix (s (294 + 125 * u + 2 * k)))) := by simp only [stE]; rw [hw, if_neg (by decide), if_pos rfl]
      obtain ⟨c, hc, ec⟩ := nm_lt hv
      rw [hw, if_neg (by decide), if_pos rfl]
      unfold fX10_worked_B66 fX10_worked_B88 fX10_worked_B158
      rw [if_neg (by decide), ec, inb_nI hc (by omega), gd_t, inb_nI (by omega) (by omega), gd_t, ix_nI (n := dpt s u k) (by omega), lt_e, show nI (dpt s u k) + 1 = nI (dpt s u (k + 1)) by rw [e1, nI_1]]
      refine step _ (fun a ha => wr_c ha) (fun j hj => ?_)
      rw [e2, wr_at]; unfold upd
      by_cases ej : j = dpt s u k
      · rw [if_pos ⟨rfl, ej⟩, if_pos ej, ec]
        rw [ec] at hv
        exact hn _ hv
      · rw [if_neg (fun z => ej z.2), if_neg ej]; exact hst j (by omega)
    · have e1 : dpt s u (k + 1) = dpt s u k := by simp only [dpt]; rw [hw, if_neg (by decide), if_pos rfl]
      have e2 : stE s u nm (k + 1) = upd (stE s u nm k) (dpt s u k - 1) (if stE s u nm k (dpt s u k - 1) = 0 then 1 else 0) := by simp only [stE]; rw [hw, if_neg (by decide), if_neg (by decide), if_pos rfl]
      rw [hw, if_neg (by decide), if_neg (by decide), if_pos rfl, nI_dm hd1, inb_nI (by omega) (by omega), gd_t, ix_nI (by omega), hst _ (by omega)]
      unfold fX10_worked_B124 fX10_worked_B158
      rw [inb_nI (by omega) (by omega)]
      simp only [gd_t, lt_e, ix_nI (n := dpt s u k - 1) (by omega)]
      rw [← e1]
      have fin : ∀ r : Int32, r = (if stE s u nm k (dpt s u k - 1) = 0 then 1 else 0) → Ok (fX10_worked_L14 (nI (292 + 125 * u)) g (nI k + 1) (nI (dpt s u (k + 1))) (wr D 7 (dpt s u (k + 1) - 1) r)) (fun r D' => r = evS s u nm ∧ ∀ a, a ≠ 7 → D' a = D a) := by
        intro r hr
        refine step _ (fun a ha => wr_c ha) (fun j hj => ?_)
        rw [e2, wr_at, e1]; unfold upd
        by_cases ej : j = dpt s u k - 1
        · rw [if_pos ⟨rfl, ej⟩, if_pos ej, hr]
        · rw [if_neg (fun z => ej z.2), if_neg ej]; exact hst j (by omega)
      rw [e1] at fin ⊢
      by_cases h0 : stE s u nm k (dpt s u k - 1) = 0
      · rw [if_pos h0]; exact fin 1 (by rw [if_pos h0])
      · rw [if_neg h0]; exact fin 0 (by rw [if_neg h0])
    · have e1 : dpt s u (k + 1) = dpt s u k - 1 := by simp only [dpt]; rw [hw, if_neg (by decide), if_neg (by decide)]
      have e2 : stE s u nm (k + 1) = upd (stE s u nm k) (dpt s u k - 2) (jn (s (294 + 125 * u + 2 * k)) (stE s u nm k (dpt s u k - 2)) (stE s u nm k (dpt s u k - 1))) := by simp only [stE]; rw [hw, if_neg (by decide), if_neg (by decide), if_neg (by decide)]
      rw [hw, if_neg (by decide), if_neg (by decide), if_neg (by decide), nI_dm1 (by omega), nI_dm (by omega), inb_nI (by omega) (by omega), gd_t, inb_nI (by omega) (by omega), gd_t, ix_nI (by omega), ix_nI (by omega), show dpt s u k - 1 - 1 = dpt s u k - 2 by omega, hst _ (by omega), hst _ (by omega), e_joinM hv, bd_s, lt_e]
      unfold fX10_worked_B158
      rw [← e1]
      refine step _ (fun a ha => wr_c ha) (fun j hj => ?_)
      rw [e2, wr_at]; unfold upd
      by_cases ej : j = dpt s u k - 2
      · rw [if_pos ⟨rfl, ej⟩, if_pos ej, e1]
      · rw [if_neg (fun z => ej z.2), if_neg ej]; exact hst j (by omega)
theorem o_worked {u : Nat} (hu : u < 2) {D : Mm} {nm : Nat → Int32} (ht : TOK (D 1) u) (hpos : 0 < nX (D 1) u) (hn : ∀ v, isNm u v → D 6 (ix v) = nm (ix v)) : Ok (fX10_worked (nI u) D) (fun r D' => r = evS (D 1) u nm ∧ ∀ a, a ≠ 7 → D' a = D a) := by
  unfold fX10_worked
  have hFU := FU_big
  have h60 := ht.2.1
  rw [lt_e, show (292 : Int32) + (125 : Int32) * nI u = nI (292 + 125 * u) by rw [← nI_add, ← pk_mul]; rfl]
  exact worked_loop hu ht hpos (nX (D 1) u) FU 0 D (by omega) (by omega) rfl hn (fun j hj => by simp only [dpt] at hj; omega)
